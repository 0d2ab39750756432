theorem dX0_init_0 : decode cX0_init 0 = .ok (.aload_n 0, 1) := by decide +kernel
theorem dX0_init_1 : decode cX0_init 1 = .ok (.invokespecial 3, 3) := by decide +kernel
theorem dX0_init_4 : decode cX0_init 4 = .ok (.aload_n 0, 1) := by decide +kernel
theorem dX0_init_5 : decode cX0_init 5 = .ok (.bipush 60, 2) := by decide +kernel
theorem dX0_init_7 : decode cX0_init 7 = .ok (.newarray .int, 2) := by decide +kernel
theorem dX0_init_9 : decode cX0_init 9 = .ok (.putfield 9, 3) := by decide +kernel
theorem dX0_init_12 : decode cX0_init 12 = .ok (.return_, 1) := by decide +kernel
theorem dX0_faultOf_0 : decode cX0_faultOf 0 = .ok (.aload_n 0, 1) := by decide +kernel
theorem dX0_faultOf_1 : decode cX0_faultOf 1 = .ok (.aload_n 1, 1) := by decide +kernel
theorem dX0_faultOf_2 : decode cX0_faultOf 2 = .ok (.putfield 15, 3) := by decide +kernel
theorem dX0_faultOf_5 : decode cX0_faultOf 5 = .ok (.aload_n 0, 1) := by decide +kernel
theorem dX0_faultOf_6 : decode cX0_faultOf 6 = .ok (.iload_n 2, 1) := by decide +kernel
theorem dX0_faultOf_7 : decode cX0_faultOf 7 = .ok (.putfield 19, 3) := by decide +kernel
theorem dX0_faultOf_10 : decode cX0_faultOf 10 = .ok (.aload_n 0, 1) := by decide +kernel
theorem dX0_faultOf_11 : decode cX0_faultOf 11 = .ok (.iconst 0, 1) := by decide +kernel
theorem dX0_faultOf_12 : decode cX0_faultOf 12 = .ok (.putfield 23, 3) := by decide +kernel
theorem dX0_faultOf_15 : decode cX0_faultOf 15 = .ok (.aload_n 0, 1) := by decide +kernel
theorem dX0_faultOf_16 : decode cX0_faultOf 16 = .ok (.iconst 0, 1) := by decide +kernel
theorem dX0_faultOf_17 : decode cX0_faultOf 17 = .ok (.putfield 26, 3) := by decide +kernel
theorem dX0_faultOf_20 : decode cX0_faultOf 20 = .ok (.aload_n 0, 1) := by decide +kernel
theorem dX0_faultOf_21 : decode cX0_faultOf 21 = .ok (.iconst (-1), 1) := by decide +kernel
theorem dX0_faultOf_22 : decode cX0_faultOf 22 = .ok (.putfield 29, 3) := by decide +kernel
theorem dX0_faultOf_25 : decode cX0_faultOf 25 = .ok (.aload_n 0, 1) := by decide +kernel
theorem dX0_faultOf_26 : decode cX0_faultOf 26 = .ok (.iconst 0, 1) := by decide +kernel
theorem dX0_faultOf_27 : decode cX0_faultOf 27 = .ok (.invokevirtual 32, 3) := by decide +kernel
theorem dX0_faultOf_30 : decode cX0_faultOf 30 = .ok (.aload_n 0, 1) := by decide +kernel
theorem dX0_faultOf_31 : decode cX0_faultOf 31 = .ok (.getfield 23, 3) := by decide +kernel
theorem dX0_faultOf_34 : decode cX0_faultOf 34 = .ok (.aload_n 0, 1) := by decide +kernel
theorem dX0_faultOf_35 : decode cX0_faultOf 35 = .ok (.getfield 19, 3) := by decide +kernel
theorem dX0_faultOf_38 : decode cX0_faultOf 38 = .ok (.if_icmp .ge 7, 3) := by decide +kernel
theorem dX0_faultOf_41 : decode cX0_faultOf 41 = .ok (.aload_n 0, 1) := by decide +kernel
theorem dX0_faultOf_42 : decode cX0_faultOf 42 = .ok (.invokevirtual 36, 3) := by decide +kernel
theorem dX0_faultOf_45 : decode cX0_faultOf 45 = .ok (.aload_n 0, 1) := by decide +kernel
theorem dX0_faultOf_46 : decode cX0_faultOf 46 = .ok (.getfield 29, 3) := by decide +kernel
theorem dX0_faultOf_49 : decode cX0_faultOf 49 = .ok (.ireturn, 1) := by decide +kernel
theorem dX0_readEither_0 : decode cX0_readEither 0 = .ok (.aload_n 0, 1) := by decide +kernel
theorem dX0_readEither_1 : decode cX0_readEither 1 = .ok (.iload_n 1, 1) := by decide +kernel
theorem dX0_readEither_2 : decode cX0_readEither 2 = .ok (.invokevirtual 39, 3) := by decide +kernel
theorem dX0_readEither_5 : decode cX0_readEither 5 = .ok (.iconst 0, 1) := by decide +kernel
theorem dX0_readEither_6 : decode cX0_readEither 6 = .ok (.istore_n 2, 1) := by decide +kernel
theorem dX0_readEither_7 : decode cX0_readEither 7 = .ok (.iload_n 2, 1) := by decide +kernel
theorem dX0_readEither_8 : decode cX0_readEither 8 = .ok (.bipush 60, 2) := by decide +kernel
theorem dX0_readEither_10 : decode cX0_readEither 10 = .ok (.if_icmp .ge 39, 3) := by decide +kernel
theorem dX0_readEither_13 : decode cX0_readEither 13 = .ok (.aload_n 0, 1) := by decide +kernel
theorem dX0_readEither_14 : decode cX0_readEither 14 = .ok (.invokevirtual 42, 3) := by decide +kernel
theorem dX0_readEither_17 : decode cX0_readEither 17 = .ok (.bipush 124, 2) := by decide +kernel
theorem dX0_readEither_19 : decode cX0_readEither 19 = .ok (.if_icmp .ne 30, 3) := by decide +kernel
theorem dX0_readEither_22 : decode cX0_readEither 22 = .ok (.aload_n 0, 1) := by decide +kernel
theorem dX0_readEither_23 : decode cX0_readEither 23 = .ok (.dup, 1) := by decide +kernel
theorem dX0_readEither_24 : decode cX0_readEither 24 = .ok (.getfield 23, 3) := by decide +kernel
theorem dX0_readEither_27 : decode cX0_readEither 27 = .ok (.iconst 1, 1) := by decide +kernel
theorem dX0_readEither_28 : decode cX0_readEither 28 = .ok (.iadd, 1) := by decide +kernel
theorem dX0_readEither_29 : decode cX0_readEither 29 = .ok (.putfield 23, 3) := by decide +kernel
theorem dX0_readEither_32 : decode cX0_readEither 32 = .ok (.aload_n 0, 1) := by decide +kernel
theorem dX0_readEither_33 : decode cX0_readEither 33 = .ok (.iload_n 1, 1) := by decide +kernel
theorem dX0_readEither_34 : decode cX0_readEither 34 = .ok (.invokevirtual 39, 3) := by decide +kernel
theorem dX0_readEither_37 : decode cX0_readEither 37 = .ok (.aload_n 0, 1) := by decide +kernel
theorem dX0_readEither_38 : decode cX0_readEither 38 = .ok (.bipush (-124), 2) := by decide +kernel
theorem dX0_readEither_40 : decode cX0_readEither 40 = .ok (.invokevirtual 46, 3) := by decide +kernel
theorem dX0_readEither_43 : decode cX0_readEither 43 = .ok (.iinc 2 1, 3) := by decide +kernel
theorem dX0_readEither_46 : decode cX0_readEither 46 = .ok (.goto (-39), 3) := by decide +kernel
theorem dX0_readEither_49 : decode cX0_readEither 49 = .ok (.return_, 1) := by decide +kernel
theorem dX0_readBoth_0 : decode cX0_readBoth 0 = .ok (.aload_n 0, 1) := by decide +kernel
theorem dX0_readBoth_1 : decode cX0_readBoth 1 = .ok (.iload_n 1, 1) := by decide +kernel
theorem dX0_readBoth_2 : decode cX0_readBoth 2 = .ok (.invokevirtual 49, 3) := by decide +kernel
theorem dX0_readBoth_5 : decode cX0_readBoth 5 = .ok (.iconst 0, 1) := by decide +kernel
theorem dX0_readBoth_6 : decode cX0_readBoth 6 = .ok (.istore_n 2, 1) := by decide +kernel
theorem dX0_readBoth_7 : decode cX0_readBoth 7 = .ok (.iload_n 2, 1) := by decide +kernel
theorem dX0_readBoth_8 : decode cX0_readBoth 8 = .ok (.bipush 60, 2) := by decide +kernel
theorem dX0_readBoth_10 : decode cX0_readBoth 10 = .ok (.if_icmp .ge 39, 3) := by decide +kernel
theorem dX0_readBoth_13 : decode cX0_readBoth 13 = .ok (.aload_n 0, 1) := by decide +kernel
theorem dX0_readBoth_14 : decode cX0_readBoth 14 = .ok (.invokevirtual 42, 3) := by decide +kernel
theorem dX0_readBoth_17 : decode cX0_readBoth 17 = .ok (.bipush 38, 2) := by decide +kernel
theorem dX0_readBoth_19 : decode cX0_readBoth 19 = .ok (.if_icmp .ne 30, 3) := by decide +kernel
theorem dX0_readBoth_22 : decode cX0_readBoth 22 = .ok (.aload_n 0, 1) := by decide +kernel
theorem dX0_readBoth_23 : decode cX0_readBoth 23 = .ok (.dup, 1) := by decide +kernel
theorem dX0_readBoth_24 : decode cX0_readBoth 24 = .ok (.getfield 23, 3) := by decide +kernel
theorem dX0_readBoth_27 : decode cX0_readBoth 27 = .ok (.iconst 1, 1) := by decide +kernel
theorem dX0_readBoth_28 : decode cX0_readBoth 28 = .ok (.iadd, 1) := by decide +kernel
theorem dX0_readBoth_29 : decode cX0_readBoth 29 = .ok (.putfield 23, 3) := by decide +kernel
theorem dX0_readBoth_32 : decode cX0_readBoth 32 = .ok (.aload_n 0, 1) := by decide +kernel
theorem dX0_readBoth_33 : decode cX0_readBoth 33 = .ok (.iload_n 1, 1) := by decide +kernel
theorem dX0_readBoth_34 : decode cX0_readBoth 34 = .ok (.invokevirtual 49, 3) := by decide +kernel
theorem dX0_readBoth_37 : decode cX0_readBoth 37 = .ok (.aload_n 0, 1) := by decide +kernel
theorem dX0_readBoth_38 : decode cX0_readBoth 38 = .ok (.bipush (-38), 2) := by decide +kernel
theorem dX0_readBoth_40 : decode cX0_readBoth 40 = .ok (.invokevirtual 46, 3) := by decide +kernel
theorem dX0_readBoth_43 : decode cX0_readBoth 43 = .ok (.iinc 2 1, 3) := by decide +kernel
theorem dX0_readBoth_46 : decode cX0_readBoth 46 = .ok (.goto (-39), 3) := by decide +kernel
theorem dX0_readBoth_49 : decode cX0_readBoth 49 = .ok (.return_, 1) := by decide +kernel
theorem dX0_readCompared_0 : decode cX0_readCompared 0 = .ok (.aload_n 0, 1) := by decide +kernel
theorem dX0_readCompared_1 : decode cX0_readCompared 1 = .ok (.iload_n 1, 1) := by decide +kernel
theorem dX0_readCompared_2 : decode cX0_readCompared 2 = .ok (.invokevirtual 52, 3) := by decide +kernel
theorem dX0_readCompared_5 : decode cX0_readCompared 5 = .ok (.aload_n 0, 1) := by decide +kernel
theorem dX0_readCompared_6 : decode cX0_readCompared 6 = .ok (.invokevirtual 42, 3) := by decide +kernel
theorem dX0_readCompared_9 : decode cX0_readCompared 9 = .ok (.istore_n 2, 1) := by decide +kernel
theorem dX0_readCompared_10 : decode cX0_readCompared 10 = .ok (.iload_n 2, 1) := by decide +kernel
theorem dX0_readCompared_11 : decode cX0_readCompared 11 = .ok (.bipush 60, 2) := by decide +kernel
theorem dX0_readCompared_13 : decode cX0_readCompared 13 = .ok (.if_icmp .eq 15, 3) := by decide +kernel
theorem dX0_readCompared_16 : decode cX0_readCompared 16 = .ok (.iload_n 2, 1) := by decide +kernel
theorem dX0_readCompared_17 : decode cX0_readCompared 17 = .ok (.bipush 61, 2) := by decide +kernel
theorem dX0_readCompared_19 : decode cX0_readCompared 19 = .ok (.if_icmp .eq 9, 3) := by decide +kernel
theorem dX0_readCompared_22 : decode cX0_readCompared 22 = .ok (.iload_n 2, 1) := by decide +kernel
theorem dX0_readCompared_23 : decode cX0_readCompared 23 = .ok (.bipush 62, 2) := by decide +kernel
theorem dX0_readCompared_25 : decode cX0_readCompared 25 = .ok (.if_icmp .ne 24, 3) := by decide +kernel
theorem dX0_readCompared_28 : decode cX0_readCompared 28 = .ok (.aload_n 0, 1) := by decide +kernel
theorem dX0_readCompared_29 : decode cX0_readCompared 29 = .ok (.dup, 1) := by decide +kernel
theorem dX0_readCompared_30 : decode cX0_readCompared 30 = .ok (.getfield 23, 3) := by decide +kernel
theorem dX0_readCompared_33 : decode cX0_readCompared 33 = .ok (.iconst 1, 1) := by decide +kernel
theorem dX0_readCompared_34 : decode cX0_readCompared 34 = .ok (.iadd, 1) := by decide +kernel
theorem dX0_readCompared_35 : decode cX0_readCompared 35 = .ok (.putfield 23, 3) := by decide +kernel
theorem dX0_readCompared_38 : decode cX0_readCompared 38 = .ok (.aload_n 0, 1) := by decide +kernel
theorem dX0_readCompared_39 : decode cX0_readCompared 39 = .ok (.iload_n 1, 1) := by decide +kernel
theorem dX0_readCompared_40 : decode cX0_readCompared 40 = .ok (.invokevirtual 52, 3) := by decide +kernel
theorem dX0_readCompared_43 : decode cX0_readCompared 43 = .ok (.aload_n 0, 1) := by decide +kernel
theorem dX0_readCompared_44 : decode cX0_readCompared 44 = .ok (.iload_n 2, 1) := by decide +kernel
theorem dX0_readCompared_45 : decode cX0_readCompared 45 = .ok (.ineg, 1) := by decide +kernel
theorem dX0_readCompared_46 : decode cX0_readCompared 46 = .ok (.invokevirtual 46, 3) := by decide +kernel
theorem dX0_readCompared_49 : decode cX0_readCompared 49 = .ok (.return_, 1) := by decide +kernel
theorem dX0_readSum_0 : decode cX0_readSum 0 = .ok (.aload_n 0, 1) := by decide +kernel
theorem dX0_readSum_1 : decode cX0_readSum 1 = .ok (.iload_n 1, 1) := by decide +kernel
theorem dX0_readSum_2 : decode cX0_readSum 2 = .ok (.invokevirtual 55, 3) := by decide +kernel
theorem dX0_readSum_5 : decode cX0_readSum 5 = .ok (.iconst 0, 1) := by decide +kernel
theorem dX0_readSum_6 : decode cX0_readSum 6 = .ok (.istore_n 2, 1) := by decide +kernel
theorem dX0_readSum_7 : decode cX0_readSum 7 = .ok (.iload_n 2, 1) := by decide +kernel
theorem dX0_readSum_8 : decode cX0_readSum 8 = .ok (.bipush 60, 2) := by decide +kernel
theorem dX0_readSum_10 : decode cX0_readSum 10 = .ok (.if_icmp .ge 53, 3) := by decide +kernel
theorem dX0_readSum_13 : decode cX0_readSum 13 = .ok (.aload_n 0, 1) := by decide +kernel
theorem dX0_readSum_14 : decode cX0_readSum 14 = .ok (.invokevirtual 42, 3) := by decide +kernel
theorem dX0_readSum_17 : decode cX0_readSum 17 = .ok (.bipush 43, 2) := by decide +kernel
theorem dX0_readSum_19 : decode cX0_readSum 19 = .ok (.if_icmp .eq 12, 3) := by decide +kernel
theorem dX0_readSum_22 : decode cX0_readSum 22 = .ok (.aload_n 0, 1) := by decide +kernel
theorem dX0_readSum_23 : decode cX0_readSum 23 = .ok (.invokevirtual 42, 3) := by decide +kernel
theorem dX0_readSum_26 : decode cX0_readSum 26 = .ok (.bipush 45, 2) := by decide +kernel
theorem dX0_readSum_28 : decode cX0_readSum 28 = .ok (.if_icmp .ne 35, 3) := by decide +kernel
theorem dX0_readSum_31 : decode cX0_readSum 31 = .ok (.aload_n 0, 1) := by decide +kernel
theorem dX0_readSum_32 : decode cX0_readSum 32 = .ok (.invokevirtual 42, 3) := by decide +kernel
theorem dX0_readSum_35 : decode cX0_readSum 35 = .ok (.istore_n 3, 1) := by decide +kernel
theorem dX0_readSum_36 : decode cX0_readSum 36 = .ok (.aload_n 0, 1) := by decide +kernel
theorem dX0_readSum_37 : decode cX0_readSum 37 = .ok (.dup, 1) := by decide +kernel
theorem dX0_readSum_38 : decode cX0_readSum 38 = .ok (.getfield 23, 3) := by decide +kernel
theorem dX0_readSum_41 : decode cX0_readSum 41 = .ok (.iconst 1, 1) := by decide +kernel
theorem dX0_readSum_42 : decode cX0_readSum 42 = .ok (.iadd, 1) := by decide +kernel
theorem dX0_readSum_43 : decode cX0_readSum 43 = .ok (.putfield 23, 3) := by decide +kernel
theorem dX0_readSum_46 : decode cX0_readSum 46 = .ok (.aload_n 0, 1) := by decide +kernel
theorem dX0_readSum_47 : decode cX0_readSum 47 = .ok (.iload_n 1, 1) := by decide +kernel
theorem dX0_readSum_48 : decode cX0_readSum 48 = .ok (.invokevirtual 55, 3) := by decide +kernel
theorem dX0_readSum_51 : decode cX0_readSum 51 = .ok (.aload_n 0, 1) := by decide +kernel
theorem dX0_readSum_52 : decode cX0_readSum 52 = .ok (.iload_n 3, 1) := by decide +kernel
theorem dX0_readSum_53 : decode cX0_readSum 53 = .ok (.ineg, 1) := by decide +kernel
theorem dX0_readSum_54 : decode cX0_readSum 54 = .ok (.invokevirtual 46, 3) := by decide +kernel
theorem dX0_readSum_57 : decode cX0_readSum 57 = .ok (.iinc 2 1, 3) := by decide +kernel
theorem dX0_readSum_60 : decode cX0_readSum 60 = .ok (.goto (-53), 3) := by decide +kernel
theorem dX0_readSum_63 : decode cX0_readSum 63 = .ok (.return_, 1) := by decide +kernel
theorem dX0_readProduct_0 : decode cX0_readProduct 0 = .ok (.aload_n 0, 1) := by decide +kernel
theorem dX0_readProduct_1 : decode cX0_readProduct 1 = .ok (.iload_n 1, 1) := by decide +kernel
theorem dX0_readProduct_2 : decode cX0_readProduct 2 = .ok (.invokevirtual 58, 3) := by decide +kernel
theorem dX0_readProduct_5 : decode cX0_readProduct 5 = .ok (.iconst 0, 1) := by decide +kernel
theorem dX0_readProduct_6 : decode cX0_readProduct 6 = .ok (.istore_n 2, 1) := by decide +kernel
theorem dX0_readProduct_7 : decode cX0_readProduct 7 = .ok (.iload_n 2, 1) := by decide +kernel
theorem dX0_readProduct_8 : decode cX0_readProduct 8 = .ok (.bipush 60, 2) := by decide +kernel
theorem dX0_readProduct_10 : decode cX0_readProduct 10 = .ok (.if_icmp .ge 53, 3) := by decide +kernel
theorem dX0_readProduct_13 : decode cX0_readProduct 13 = .ok (.aload_n 0, 1) := by decide +kernel
theorem dX0_readProduct_14 : decode cX0_readProduct 14 = .ok (.invokevirtual 42, 3) := by decide +kernel
theorem dX0_readProduct_17 : decode cX0_readProduct 17 = .ok (.bipush 42, 2) := by decide +kernel
theorem dX0_readProduct_19 : decode cX0_readProduct 19 = .ok (.if_icmp .eq 12, 3) := by decide +kernel
theorem dX0_readProduct_22 : decode cX0_readProduct 22 = .ok (.aload_n 0, 1) := by decide +kernel
theorem dX0_readProduct_23 : decode cX0_readProduct 23 = .ok (.invokevirtual 42, 3) := by decide +kernel
theorem dX0_readProduct_26 : decode cX0_readProduct 26 = .ok (.bipush 47, 2) := by decide +kernel
theorem dX0_readProduct_28 : decode cX0_readProduct 28 = .ok (.if_icmp .ne 35, 3) := by decide +kernel
theorem dX0_readProduct_31 : decode cX0_readProduct 31 = .ok (.aload_n 0, 1) := by decide +kernel
theorem dX0_readProduct_32 : decode cX0_readProduct 32 = .ok (.invokevirtual 42, 3) := by decide +kernel
theorem dX0_readProduct_35 : decode cX0_readProduct 35 = .ok (.istore_n 3, 1) := by decide +kernel
theorem dX0_readProduct_36 : decode cX0_readProduct 36 = .ok (.aload_n 0, 1) := by decide +kernel
theorem dX0_readProduct_37 : decode cX0_readProduct 37 = .ok (.dup, 1) := by decide +kernel
theorem dX0_readProduct_38 : decode cX0_readProduct 38 = .ok (.getfield 23, 3) := by decide +kernel
theorem dX0_readProduct_41 : decode cX0_readProduct 41 = .ok (.iconst 1, 1) := by decide +kernel
theorem dX0_readProduct_42 : decode cX0_readProduct 42 = .ok (.iadd, 1) := by decide +kernel
theorem dX0_readProduct_43 : decode cX0_readProduct 43 = .ok (.putfield 23, 3) := by decide +kernel
theorem dX0_readProduct_46 : decode cX0_readProduct 46 = .ok (.aload_n 0, 1) := by decide +kernel
theorem dX0_readProduct_47 : decode cX0_readProduct 47 = .ok (.iload_n 1, 1) := by decide +kernel
theorem dX0_readProduct_48 : decode cX0_readProduct 48 = .ok (.invokevirtual 58, 3) := by decide +kernel
theorem dX0_readProduct_51 : decode cX0_readProduct 51 = .ok (.aload_n 0, 1) := by decide +kernel
theorem dX0_readProduct_52 : decode cX0_readProduct 52 = .ok (.iload_n 3, 1) := by decide +kernel
theorem dX0_readProduct_53 : decode cX0_readProduct 53 = .ok (.ineg, 1) := by decide +kernel
theorem dX0_readProduct_54 : decode cX0_readProduct 54 = .ok (.invokevirtual 46, 3) := by decide +kernel
theorem dX0_readProduct_57 : decode cX0_readProduct 57 = .ok (.iinc 2 1, 3) := by decide +kernel
theorem dX0_readProduct_60 : decode cX0_readProduct 60 = .ok (.goto (-53), 3) := by decide +kernel
theorem dX0_readProduct_63 : decode cX0_readProduct 63 = .ok (.return_, 1) := by decide +kernel
theorem dX0_readSingle_0 : decode cX0_readSingle 0 = .ok (.aload_n 0, 1) := by decide +kernel
theorem dX0_readSingle_1 : decode cX0_readSingle 1 = .ok (.invokevirtual 42, 3) := by decide +kernel
theorem dX0_readSingle_4 : decode cX0_readSingle 4 = .ok (.istore_n 2, 1) := by decide +kernel
theorem dX0_readSingle_5 : decode cX0_readSingle 5 = .ok (.iload_n 2, 1) := by decide +kernel
theorem dX0_readSingle_6 : decode cX0_readSingle 6 = .ok (.invokestatic 61, 3) := by decide +kernel
theorem dX0_readSingle_9 : decode cX0_readSingle 9 = .ok (.ifCond .eq 10, 3) := by decide +kernel
theorem dX0_readSingle_12 : decode cX0_readSingle 12 = .ok (.aload_n 0, 1) := by decide +kernel
theorem dX0_readSingle_13 : decode cX0_readSingle 13 = .ok (.invokevirtual 65, 3) := by decide +kernel
theorem dX0_readSingle_16 : decode cX0_readSingle 16 = .ok (.goto 105, 3) := by decide +kernel
theorem dX0_readSingle_19 : decode cX0_readSingle 19 = .ok (.iload_n 2, 1) := by decide +kernel
theorem dX0_readSingle_20 : decode cX0_readSingle 20 = .ok (.invokestatic 68, 3) := by decide +kernel
theorem dX0_readSingle_23 : decode cX0_readSingle 23 = .ok (.ifCond .eq 22, 3) := by decide +kernel
theorem dX0_readSingle_26 : decode cX0_readSingle 26 = .ok (.aload_n 0, 1) := by decide +kernel
theorem dX0_readSingle_27 : decode cX0_readSingle 27 = .ok (.dup, 1) := by decide +kernel
theorem dX0_readSingle_28 : decode cX0_readSingle 28 = .ok (.getfield 23, 3) := by decide +kernel
theorem dX0_readSingle_31 : decode cX0_readSingle 31 = .ok (.iconst 1, 1) := by decide +kernel
theorem dX0_readSingle_32 : decode cX0_readSingle 32 = .ok (.iadd, 1) := by decide +kernel
theorem dX0_readSingle_33 : decode cX0_readSingle 33 = .ok (.putfield 23, 3) := by decide +kernel
theorem dX0_readSingle_36 : decode cX0_readSingle 36 = .ok (.aload_n 0, 1) := by decide +kernel
theorem dX0_readSingle_37 : decode cX0_readSingle 37 = .ok (.iload_n 2, 1) := by decide +kernel
theorem dX0_readSingle_38 : decode cX0_readSingle 38 = .ok (.ineg, 1) := by decide +kernel
theorem dX0_readSingle_39 : decode cX0_readSingle 39 = .ok (.invokevirtual 46, 3) := by decide +kernel
theorem dX0_readSingle_42 : decode cX0_readSingle 42 = .ok (.goto 79, 3) := by decide +kernel
theorem dX0_readSingle_45 : decode cX0_readSingle 45 = .ok (.iload_n 2, 1) := by decide +kernel
theorem dX0_readSingle_46 : decode cX0_readSingle 46 = .ok (.bipush 33, 2) := by decide +kernel
theorem dX0_readSingle_48 : decode cX0_readSingle 48 = .ok (.if_icmp .ne 34, 3) := by decide +kernel
theorem dX0_readSingle_51 : decode cX0_readSingle 51 = .ok (.iload_n 1, 1) := by decide +kernel
theorem dX0_readSingle_52 : decode cX0_readSingle 52 = .ok (.iconst 5, 1) := by decide +kernel
theorem dX0_readSingle_53 : decode cX0_readSingle 53 = .ok (.if_icmp .ge 29, 3) := by decide +kernel
theorem dX0_readSingle_56 : decode cX0_readSingle 56 = .ok (.aload_n 0, 1) := by decide +kernel
theorem dX0_readSingle_57 : decode cX0_readSingle 57 = .ok (.dup, 1) := by decide +kernel
theorem dX0_readSingle_58 : decode cX0_readSingle 58 = .ok (.getfield 23, 3) := by decide +kernel
theorem dX0_readSingle_61 : decode cX0_readSingle 61 = .ok (.iconst 1, 1) := by decide +kernel
theorem dX0_readSingle_62 : decode cX0_readSingle 62 = .ok (.iadd, 1) := by decide +kernel
theorem dX0_readSingle_63 : decode cX0_readSingle 63 = .ok (.putfield 23, 3) := by decide +kernel
theorem dX0_readSingle_66 : decode cX0_readSingle 66 = .ok (.aload_n 0, 1) := by decide +kernel
theorem dX0_readSingle_67 : decode cX0_readSingle 67 = .ok (.iload_n 1, 1) := by decide +kernel
theorem dX0_readSingle_68 : decode cX0_readSingle 68 = .ok (.iconst 1, 1) := by decide +kernel
theorem dX0_readSingle_69 : decode cX0_readSingle 69 = .ok (.iadd, 1) := by decide +kernel
theorem dX0_readSingle_70 : decode cX0_readSingle 70 = .ok (.invokevirtual 58, 3) := by decide +kernel
theorem dX0_readSingle_73 : decode cX0_readSingle 73 = .ok (.aload_n 0, 1) := by decide +kernel
theorem dX0_readSingle_74 : decode cX0_readSingle 74 = .ok (.bipush (-33), 2) := by decide +kernel
theorem dX0_readSingle_76 : decode cX0_readSingle 76 = .ok (.invokevirtual 46, 3) := by decide +kernel
theorem dX0_readSingle_79 : decode cX0_readSingle 79 = .ok (.goto 42, 3) := by decide +kernel
theorem dX0_readSingle_82 : decode cX0_readSingle 82 = .ok (.iload_n 2, 1) := by decide +kernel
theorem dX0_readSingle_83 : decode cX0_readSingle 83 = .ok (.bipush 40, 2) := by decide +kernel
theorem dX0_readSingle_85 : decode cX0_readSingle 85 = .ok (.if_icmp .ne 32, 3) := by decide +kernel
theorem dX0_readSingle_88 : decode cX0_readSingle 88 = .ok (.iload_n 1, 1) := by decide +kernel
theorem dX0_readSingle_89 : decode cX0_readSingle 89 = .ok (.iconst 5, 1) := by decide +kernel
theorem dX0_readSingle_90 : decode cX0_readSingle 90 = .ok (.if_icmp .ge 27, 3) := by decide +kernel
theorem dX0_readSingle_93 : decode cX0_readSingle 93 = .ok (.aload_n 0, 1) := by decide +kernel
theorem dX0_readSingle_94 : decode cX0_readSingle 94 = .ok (.dup, 1) := by decide +kernel
theorem dX0_readSingle_95 : decode cX0_readSingle 95 = .ok (.getfield 23, 3) := by decide +kernel
theorem dX0_readSingle_98 : decode cX0_readSingle 98 = .ok (.iconst 1, 1) := by decide +kernel
theorem dX0_readSingle_99 : decode cX0_readSingle 99 = .ok (.iadd, 1) := by decide +kernel
theorem dX0_readSingle_100 : decode cX0_readSingle 100 = .ok (.putfield 23, 3) := by decide +kernel
theorem dX0_readSingle_103 : decode cX0_readSingle 103 = .ok (.aload_n 0, 1) := by decide +kernel
theorem dX0_readSingle_104 : decode cX0_readSingle 104 = .ok (.iload_n 1, 1) := by decide +kernel
theorem dX0_readSingle_105 : decode cX0_readSingle 105 = .ok (.iconst 1, 1) := by decide +kernel
theorem dX0_readSingle_106 : decode cX0_readSingle 106 = .ok (.iadd, 1) := by decide +kernel
theorem dX0_readSingle_107 : decode cX0_readSingle 107 = .ok (.invokevirtual 32, 3) := by decide +kernel
theorem dX0_readSingle_110 : decode cX0_readSingle 110 = .ok (.aload_n 0, 1) := by decide +kernel
theorem dX0_readSingle_111 : decode cX0_readSingle 111 = .ok (.invokevirtual 71, 3) := by decide +kernel
theorem dX0_readSingle_114 : decode cX0_readSingle 114 = .ok (.goto 7, 3) := by decide +kernel
theorem dX0_readSingle_117 : decode cX0_readSingle 117 = .ok (.aload_n 0, 1) := by decide +kernel
theorem dX0_readSingle_118 : decode cX0_readSingle 118 = .ok (.invokevirtual 36, 3) := by decide +kernel
theorem dX0_readSingle_121 : decode cX0_readSingle 121 = .ok (.return_, 1) := by decide +kernel
theorem dX0_readClosing_0 : decode cX0_readClosing 0 = .ok (.aload_n 0, 1) := by decide +kernel
theorem dX0_readClosing_1 : decode cX0_readClosing 1 = .ok (.invokevirtual 42, 3) := by decide +kernel
theorem dX0_readClosing_4 : decode cX0_readClosing 4 = .ok (.bipush 41, 2) := by decide +kernel
theorem dX0_readClosing_6 : decode cX0_readClosing 6 = .ok (.if_icmp .ne 16, 3) := by decide +kernel
theorem dX0_readClosing_9 : decode cX0_readClosing 9 = .ok (.aload_n 0, 1) := by decide +kernel
theorem dX0_readClosing_10 : decode cX0_readClosing 10 = .ok (.dup, 1) := by decide +kernel
theorem dX0_readClosing_11 : decode cX0_readClosing 11 = .ok (.getfield 23, 3) := by decide +kernel
theorem dX0_readClosing_14 : decode cX0_readClosing 14 = .ok (.iconst 1, 1) := by decide +kernel
theorem dX0_readClosing_15 : decode cX0_readClosing 15 = .ok (.iadd, 1) := by decide +kernel
theorem dX0_readClosing_16 : decode cX0_readClosing 16 = .ok (.putfield 23, 3) := by decide +kernel
theorem dX0_readClosing_19 : decode cX0_readClosing 19 = .ok (.goto 7, 3) := by decide +kernel
theorem dX0_readClosing_22 : decode cX0_readClosing 22 = .ok (.aload_n 0, 1) := by decide +kernel
theorem dX0_readClosing_23 : decode cX0_readClosing 23 = .ok (.invokevirtual 36, 3) := by decide +kernel
theorem dX0_readClosing_26 : decode cX0_readClosing 26 = .ok (.return_, 1) := by decide +kernel
theorem dX0_readNumber_0 : decode cX0_readNumber 0 = .ok (.iconst 0, 1) := by decide +kernel
theorem dX0_readNumber_1 : decode cX0_readNumber 1 = .ok (.istore_n 1, 1) := by decide +kernel
theorem dX0_readNumber_2 : decode cX0_readNumber 2 = .ok (.iconst 0, 1) := by decide +kernel
theorem dX0_readNumber_3 : decode cX0_readNumber 3 = .ok (.istore_n 2, 1) := by decide +kernel
theorem dX0_readNumber_4 : decode cX0_readNumber 4 = .ok (.iload_n 2, 1) := by decide +kernel
theorem dX0_readNumber_5 : decode cX0_readNumber 5 = .ok (.iconst 4, 1) := by decide +kernel
theorem dX0_readNumber_6 : decode cX0_readNumber 6 = .ok (.if_icmp .ge 42, 3) := by decide +kernel
theorem dX0_readNumber_9 : decode cX0_readNumber 9 = .ok (.aload_n 0, 1) := by decide +kernel
theorem dX0_readNumber_10 : decode cX0_readNumber 10 = .ok (.invokevirtual 42, 3) := by decide +kernel
theorem dX0_readNumber_13 : decode cX0_readNumber 13 = .ok (.invokestatic 61, 3) := by decide +kernel
theorem dX0_readNumber_16 : decode cX0_readNumber 16 = .ok (.ifCond .eq 32, 3) := by decide +kernel
theorem dX0_readNumber_19 : decode cX0_readNumber 19 = .ok (.iload_n 1, 1) := by decide +kernel
theorem dX0_readNumber_20 : decode cX0_readNumber 20 = .ok (.bipush 10, 2) := by decide +kernel
theorem dX0_readNumber_22 : decode cX0_readNumber 22 = .ok (.imul, 1) := by decide +kernel
theorem dX0_readNumber_23 : decode cX0_readNumber 23 = .ok (.aload_n 0, 1) := by decide +kernel
theorem dX0_readNumber_24 : decode cX0_readNumber 24 = .ok (.invokevirtual 42, 3) := by decide +kernel
theorem dX0_readNumber_27 : decode cX0_readNumber 27 = .ok (.iadd, 1) := by decide +kernel
theorem dX0_readNumber_28 : decode cX0_readNumber 28 = .ok (.bipush 48, 2) := by decide +kernel
theorem dX0_readNumber_30 : decode cX0_readNumber 30 = .ok (.isub, 1) := by decide +kernel
theorem dX0_readNumber_31 : decode cX0_readNumber 31 = .ok (.istore_n 1, 1) := by decide +kernel
theorem dX0_readNumber_32 : decode cX0_readNumber 32 = .ok (.aload_n 0, 1) := by decide +kernel
theorem dX0_readNumber_33 : decode cX0_readNumber 33 = .ok (.dup, 1) := by decide +kernel
theorem dX0_readNumber_34 : decode cX0_readNumber 34 = .ok (.getfield 23, 3) := by decide +kernel
theorem dX0_readNumber_37 : decode cX0_readNumber 37 = .ok (.iconst 1, 1) := by decide +kernel
theorem dX0_readNumber_38 : decode cX0_readNumber 38 = .ok (.iadd, 1) := by decide +kernel
theorem dX0_readNumber_39 : decode cX0_readNumber 39 = .ok (.putfield 23, 3) := by decide +kernel
theorem dX0_readNumber_42 : decode cX0_readNumber 42 = .ok (.iinc 2 1, 3) := by decide +kernel
theorem dX0_readNumber_45 : decode cX0_readNumber 45 = .ok (.goto (-41), 3) := by decide +kernel
theorem dX0_readNumber_48 : decode cX0_readNumber 48 = .ok (.aload_n 0, 1) := by decide +kernel
theorem dX0_readNumber_49 : decode cX0_readNumber 49 = .ok (.iload_n 1, 1) := by decide +kernel
theorem dX0_readNumber_50 : decode cX0_readNumber 50 = .ok (.invokevirtual 46, 3) := by decide +kernel
theorem dX0_readNumber_53 : decode cX0_readNumber 53 = .ok (.return_, 1) := by decide +kernel
theorem dX0_next_0 : decode cX0_next 0 = .ok (.aload_n 0, 1) := by decide +kernel
theorem dX0_next_1 : decode cX0_next 1 = .ok (.getfield 29, 3) := by decide +kernel
theorem dX0_next_4 : decode cX0_next 4 = .ok (.ifCond .ge 40, 3) := by decide +kernel
theorem dX0_next_7 : decode cX0_next 7 = .ok (.aload_n 0, 1) := by decide +kernel
theorem dX0_next_8 : decode cX0_next 8 = .ok (.getfield 15, 3) := by decide +kernel
theorem dX0_next_11 : decode cX0_next 11 = .ok (.ifnull 33, 3) := by decide +kernel
theorem dX0_next_14 : decode cX0_next 14 = .ok (.aload_n 0, 1) := by decide +kernel
theorem dX0_next_15 : decode cX0_next 15 = .ok (.getfield 23, 3) := by decide +kernel
theorem dX0_next_18 : decode cX0_next 18 = .ok (.ifCond .lt 26, 3) := by decide +kernel
theorem dX0_next_21 : decode cX0_next 21 = .ok (.aload_n 0, 1) := by decide +kernel
theorem dX0_next_22 : decode cX0_next 22 = .ok (.getfield 23, 3) := by decide +kernel
theorem dX0_next_25 : decode cX0_next 25 = .ok (.aload_n 0, 1) := by decide +kernel
theorem dX0_next_26 : decode cX0_next 26 = .ok (.getfield 19, 3) := by decide +kernel
theorem dX0_next_29 : decode cX0_next 29 = .ok (.if_icmp .ge 15, 3) := by decide +kernel
theorem dX0_next_32 : decode cX0_next 32 = .ok (.aload_n 0, 1) := by decide +kernel
theorem dX0_next_33 : decode cX0_next 33 = .ok (.getfield 23, 3) := by decide +kernel
theorem dX0_next_36 : decode cX0_next 36 = .ok (.aload_n 0, 1) := by decide +kernel
theorem dX0_next_37 : decode cX0_next 37 = .ok (.getfield 15, 3) := by decide +kernel
theorem dX0_next_40 : decode cX0_next 40 = .ok (.arraylength, 1) := by decide +kernel
theorem dX0_next_41 : decode cX0_next 41 = .ok (.if_icmp .lt 5, 3) := by decide +kernel
theorem dX0_next_44 : decode cX0_next 44 = .ok (.iconst (-1), 1) := by decide +kernel
theorem dX0_next_45 : decode cX0_next 45 = .ok (.ireturn, 1) := by decide +kernel
theorem dX0_next_46 : decode cX0_next 46 = .ok (.aload_n 0, 1) := by decide +kernel
theorem dX0_next_47 : decode cX0_next 47 = .ok (.getfield 15, 3) := by decide +kernel
theorem dX0_next_50 : decode cX0_next 50 = .ok (.aload_n 0, 1) := by decide +kernel
theorem dX0_next_51 : decode cX0_next 51 = .ok (.getfield 23, 3) := by decide +kernel
theorem dX0_next_54 : decode cX0_next 54 = .ok (.baload, 1) := by decide +kernel
theorem dX0_next_55 : decode cX0_next 55 = .ok (.sipush 255, 3) := by decide +kernel
theorem dX0_next_58 : decode cX0_next 58 = .ok (.iand, 1) := by decide +kernel
theorem dX0_next_59 : decode cX0_next 59 = .ok (.ireturn, 1) := by decide +kernel
theorem dX0_fail_0 : decode cX0_fail 0 = .ok (.aload_n 0, 1) := by decide +kernel
theorem dX0_fail_1 : decode cX0_fail 1 = .ok (.getfield 29, 3) := by decide +kernel
theorem dX0_fail_4 : decode cX0_fail 4 = .ok (.ifCond .ge 11, 3) := by decide +kernel
theorem dX0_fail_7 : decode cX0_fail 7 = .ok (.aload_n 0, 1) := by decide +kernel
theorem dX0_fail_8 : decode cX0_fail 8 = .ok (.aload_n 0, 1) := by decide +kernel
theorem dX0_fail_9 : decode cX0_fail 9 = .ok (.getfield 23, 3) := by decide +kernel
theorem dX0_fail_12 : decode cX0_fail 12 = .ok (.putfield 29, 3) := by decide +kernel
theorem dX0_fail_15 : decode cX0_fail 15 = .ok (.return_, 1) := by decide +kernel
theorem dX0_emit_0 : decode cX0_emit 0 = .ok (.aload_n 0, 1) := by decide +kernel
theorem dX0_emit_1 : decode cX0_emit 1 = .ok (.getfield 26, 3) := by decide +kernel
theorem dX0_emit_4 : decode cX0_emit 4 = .ok (.aload_n 0, 1) := by decide +kernel
theorem dX0_emit_5 : decode cX0_emit 5 = .ok (.getfield 9, 3) := by decide +kernel
theorem dX0_emit_8 : decode cX0_emit 8 = .ok (.arraylength, 1) := by decide +kernel
theorem dX0_emit_9 : decode cX0_emit 9 = .ok (.if_icmp .ge 23, 3) := by decide +kernel
theorem dX0_emit_12 : decode cX0_emit 12 = .ok (.aload_n 0, 1) := by decide +kernel
theorem dX0_emit_13 : decode cX0_emit 13 = .ok (.getfield 9, 3) := by decide +kernel
theorem dX0_emit_16 : decode cX0_emit 16 = .ok (.aload_n 0, 1) := by decide +kernel
theorem dX0_emit_17 : decode cX0_emit 17 = .ok (.getfield 26, 3) := by decide +kernel
theorem dX0_emit_20 : decode cX0_emit 20 = .ok (.iload_n 1, 1) := by decide +kernel
theorem dX0_emit_21 : decode cX0_emit 21 = .ok (.iastore, 1) := by decide +kernel
theorem dX0_emit_22 : decode cX0_emit 22 = .ok (.aload_n 0, 1) := by decide +kernel
theorem dX0_emit_23 : decode cX0_emit 23 = .ok (.dup, 1) := by decide +kernel
theorem dX0_emit_24 : decode cX0_emit 24 = .ok (.getfield 26, 3) := by decide +kernel
theorem dX0_emit_27 : decode cX0_emit 27 = .ok (.iconst 1, 1) := by decide +kernel
theorem dX0_emit_28 : decode cX0_emit 28 = .ok (.iadd, 1) := by decide +kernel
theorem dX0_emit_29 : decode cX0_emit 29 = .ok (.putfield 26, 3) := by decide +kernel
theorem dX0_emit_32 : decode cX0_emit 32 = .ok (.return_, 1) := by decide +kernel
theorem dX0_isDigit_0 : decode cX0_isDigit 0 = .ok (.iload_n 0, 1) := by decide +kernel
theorem dX0_isDigit_1 : decode cX0_isDigit 1 = .ok (.bipush 48, 2) := by decide +kernel
theorem dX0_isDigit_3 : decode cX0_isDigit 3 = .ok (.if_icmp .lt 13, 3) := by decide +kernel
theorem dX0_isDigit_6 : decode cX0_isDigit 6 = .ok (.iload_n 0, 1) := by decide +kernel
theorem dX0_isDigit_7 : decode cX0_isDigit 7 = .ok (.bipush 57, 2) := by decide +kernel
theorem dX0_isDigit_9 : decode cX0_isDigit 9 = .ok (.if_icmp .gt 7, 3) := by decide +kernel
theorem dX0_isDigit_12 : decode cX0_isDigit 12 = .ok (.iconst 1, 1) := by decide +kernel
theorem dX0_isDigit_13 : decode cX0_isDigit 13 = .ok (.goto 4, 3) := by decide +kernel
theorem dX0_isDigit_16 : decode cX0_isDigit 16 = .ok (.iconst 0, 1) := by decide +kernel
theorem dX0_isDigit_17 : decode cX0_isDigit 17 = .ok (.ireturn, 1) := by decide +kernel
theorem dX0_isName_0 : decode cX0_isName 0 = .ok (.iload_n 0, 1) := by decide +kernel
theorem dX0_isName_1 : decode cX0_isName 1 = .ok (.bipush 104, 2) := by decide +kernel
theorem dX0_isName_3 : decode cX0_isName 3 = .ok (.if_icmp .eq 39, 3) := by decide +kernel
theorem dX0_isName_6 : decode cX0_isName 6 = .ok (.iload_n 0, 1) := by decide +kernel
theorem dX0_isName_7 : decode cX0_isName 7 = .ok (.bipush 100, 2) := by decide +kernel
theorem dX0_isName_9 : decode cX0_isName 9 = .ok (.if_icmp .eq 33, 3) := by decide +kernel
theorem dX0_isName_12 : decode cX0_isName 12 = .ok (.iload_n 0, 1) := by decide +kernel
theorem dX0_isName_13 : decode cX0_isName 13 = .ok (.bipush 117, 2) := by decide +kernel
theorem dX0_isName_15 : decode cX0_isName 15 = .ok (.if_icmp .eq 27, 3) := by decide +kernel
theorem dX0_isName_18 : decode cX0_isName 18 = .ok (.iload_n 0, 1) := by decide +kernel
theorem dX0_isName_19 : decode cX0_isName 19 = .ok (.bipush 107, 2) := by decide +kernel
theorem dX0_isName_21 : decode cX0_isName 21 = .ok (.if_icmp .eq 21, 3) := by decide +kernel
theorem dX0_isName_24 : decode cX0_isName 24 = .ok (.iload_n 0, 1) := by decide +kernel
theorem dX0_isName_25 : decode cX0_isName 25 = .ok (.bipush 111, 2) := by decide +kernel
theorem dX0_isName_27 : decode cX0_isName 27 = .ok (.if_icmp .eq 15, 3) := by decide +kernel
theorem dX0_isName_30 : decode cX0_isName 30 = .ok (.iload_n 0, 1) := by decide +kernel
theorem dX0_isName_31 : decode cX0_isName 31 = .ok (.bipush 99, 2) := by decide +kernel
theorem dX0_isName_33 : decode cX0_isName 33 = .ok (.if_icmp .eq 9, 3) := by decide +kernel
theorem dX0_isName_36 : decode cX0_isName 36 = .ok (.iload_n 0, 1) := by decide +kernel
theorem dX0_isName_37 : decode cX0_isName 37 = .ok (.bipush 110, 2) := by decide +kernel
theorem dX0_isName_39 : decode cX0_isName 39 = .ok (.if_icmp .ne 7, 3) := by decide +kernel
theorem dX0_isName_42 : decode cX0_isName 42 = .ok (.iconst 1, 1) := by decide +kernel
theorem dX0_isName_43 : decode cX0_isName 43 = .ok (.goto 4, 3) := by decide +kernel
theorem dX0_isName_46 : decode cX0_isName 46 = .ok (.iconst 0, 1) := by decide +kernel
theorem dX0_isName_47 : decode cX0_isName 47 = .ok (.ireturn, 1) := by decide +kernel
theorem dX1_init_0 : decode cX1_init 0 = .ok (.aload_n 0, 1) := by decide +kernel
theorem dX1_init_1 : decode cX1_init 1 = .ok (.invokespecial 3, 3) := by decide +kernel
theorem dX1_init_4 : decode cX1_init 4 = .ok (.aload_n 0, 1) := by decide +kernel
theorem dX1_init_5 : decode cX1_init 5 = .ok (.bipush 12, 2) := by decide +kernel
theorem dX1_init_7 : decode cX1_init 7 = .ok (.newarray .int, 2) := by decide +kernel
theorem dX1_init_9 : decode cX1_init 9 = .ok (.putfield 9, 3) := by decide +kernel
theorem dX1_init_12 : decode cX1_init 12 = .ok (.aload_n 0, 1) := by decide +kernel
theorem dX1_init_13 : decode cX1_init 13 = .ok (.bipush 12, 2) := by decide +kernel
theorem dX1_init_15 : decode cX1_init 15 = .ok (.newarray .int, 2) := by decide +kernel
theorem dX1_init_17 : decode cX1_init 17 = .ok (.putfield 15, 3) := by decide +kernel
theorem dX1_init_20 : decode cX1_init 20 = .ok (.aload_n 0, 1) := by decide +kernel
theorem dX1_init_21 : decode cX1_init 21 = .ok (.bipush 12, 2) := by decide +kernel
theorem dX1_init_23 : decode cX1_init 23 = .ok (.newarray .int, 2) := by decide +kernel
theorem dX1_init_25 : decode cX1_init 25 = .ok (.putfield 18, 3) := by decide +kernel
theorem dX1_init_28 : decode cX1_init 28 = .ok (.aload_n 0, 1) := by decide +kernel
theorem dX1_init_29 : decode cX1_init 29 = .ok (.sipush 720, 3) := by decide +kernel
theorem dX1_init_32 : decode cX1_init 32 = .ok (.newarray .int, 2) := by decide +kernel
theorem dX1_init_34 : decode cX1_init 34 = .ok (.putfield 21, 3) := by decide +kernel
theorem dX1_init_37 : decode cX1_init 37 = .ok (.aload_n 0, 1) := by decide +kernel
theorem dX1_init_38 : decode cX1_init 38 = .ok (.bipush 60, 2) := by decide +kernel
theorem dX1_init_40 : decode cX1_init 40 = .ok (.newarray .int, 2) := by decide +kernel
theorem dX1_init_42 : decode cX1_init 42 = .ok (.putfield 24, 3) := by decide +kernel
theorem dX1_init_45 : decode cX1_init 45 = .ok (.return_, 1) := by decide +kernel
theorem dX1_has_0 : decode cX1_has 0 = .ok (.iload_n 1, 1) := by decide +kernel
theorem dX1_has_1 : decode cX1_has 1 = .ok (.ifCond .lt 15, 3) := by decide +kernel
theorem dX1_has_4 : decode cX1_has 4 = .ok (.iload_n 1, 1) := by decide +kernel
theorem dX1_has_5 : decode cX1_has 5 = .ok (.aload_n 0, 1) := by decide +kernel
theorem dX1_has_6 : decode cX1_has 6 = .ok (.getfield 27, 3) := by decide +kernel
theorem dX1_has_9 : decode cX1_has 9 = .ok (.if_icmp .ge 7, 3) := by decide +kernel
theorem dX1_has_12 : decode cX1_has 12 = .ok (.iconst 1, 1) := by decide +kernel
theorem dX1_has_13 : decode cX1_has 13 = .ok (.goto 4, 3) := by decide +kernel
theorem dX1_has_16 : decode cX1_has 16 = .ok (.iconst 0, 1) := by decide +kernel
theorem dX1_has_17 : decode cX1_has 17 = .ok (.ireturn, 1) := by decide +kernel
theorem dX1_add_0 : decode cX1_add 0 = .ok (.aload_n 0, 1) := by decide +kernel
theorem dX1_add_1 : decode cX1_add 1 = .ok (.getfield 27, 3) := by decide +kernel
theorem dX1_add_4 : decode cX1_add 4 = .ok (.bipush 12, 2) := by decide +kernel
theorem dX1_add_6 : decode cX1_add 6 = .ok (.if_icmp .lt 5, 3) := by decide +kernel
theorem dX1_add_9 : decode cX1_add 9 = .ok (.iconst (-1), 1) := by decide +kernel
theorem dX1_add_10 : decode cX1_add 10 = .ok (.ireturn, 1) := by decide +kernel
theorem dX1_add_11 : decode cX1_add 11 = .ok (.aload_n 0, 1) := by decide +kernel
theorem dX1_add_12 : decode cX1_add 12 = .ok (.getfield 9, 3) := by decide +kernel
theorem dX1_add_15 : decode cX1_add 15 = .ok (.aload_n 0, 1) := by decide +kernel
theorem dX1_add_16 : decode cX1_add 16 = .ok (.getfield 27, 3) := by decide +kernel
theorem dX1_add_19 : decode cX1_add 19 = .ok (.iload_n 1, 1) := by decide +kernel
theorem dX1_add_20 : decode cX1_add 20 = .ok (.iastore, 1) := by decide +kernel
theorem dX1_add_21 : decode cX1_add 21 = .ok (.aload_n 0, 1) := by decide +kernel
theorem dX1_add_22 : decode cX1_add 22 = .ok (.getfield 15, 3) := by decide +kernel
theorem dX1_add_25 : decode cX1_add 25 = .ok (.aload_n 0, 1) := by decide +kernel
theorem dX1_add_26 : decode cX1_add 26 = .ok (.getfield 27, 3) := by decide +kernel
theorem dX1_add_29 : decode cX1_add 29 = .ok (.iload_n 2, 1) := by decide +kernel
theorem dX1_add_30 : decode cX1_add 30 = .ok (.iastore, 1) := by decide +kernel
theorem dX1_add_31 : decode cX1_add 31 = .ok (.aload_n 0, 1) := by decide +kernel
theorem dX1_add_32 : decode cX1_add 32 = .ok (.getfield 18, 3) := by decide +kernel
theorem dX1_add_35 : decode cX1_add 35 = .ok (.aload_n 0, 1) := by decide +kernel
theorem dX1_add_36 : decode cX1_add 36 = .ok (.getfield 27, 3) := by decide +kernel
theorem dX1_add_39 : decode cX1_add 39 = .ok (.aload_n 3, 1) := by decide +kernel
theorem dX1_add_40 : decode cX1_add 40 = .ok (.getfield 31, 3) := by decide +kernel
theorem dX1_add_43 : decode cX1_add 43 = .ok (.iastore, 1) := by decide +kernel
theorem dX1_add_44 : decode cX1_add 44 = .ok (.aload_n 3, 1) := by decide +kernel
theorem dX1_add_45 : decode cX1_add 45 = .ok (.getfield 34, 3) := by decide +kernel
theorem dX1_add_48 : decode cX1_add 48 = .ok (.iconst 0, 1) := by decide +kernel
theorem dX1_add_49 : decode cX1_add 49 = .ok (.aload_n 0, 1) := by decide +kernel
theorem dX1_add_50 : decode cX1_add 50 = .ok (.getfield 21, 3) := by decide +kernel
theorem dX1_add_53 : decode cX1_add 53 = .ok (.aload_n 0, 1) := by decide +kernel
theorem dX1_add_54 : decode cX1_add 54 = .ok (.getfield 27, 3) := by decide +kernel
theorem dX1_add_57 : decode cX1_add 57 = .ok (.bipush 60, 2) := by decide +kernel
theorem dX1_add_59 : decode cX1_add 59 = .ok (.imul, 1) := by decide +kernel
theorem dX1_add_60 : decode cX1_add 60 = .ok (.bipush 60, 2) := by decide +kernel
theorem dX1_add_62 : decode cX1_add 62 = .ok (.invokestatic 35, 3) := by decide +kernel
theorem dX1_add_65 : decode cX1_add 65 = .ok (.aload_n 0, 1) := by decide +kernel
theorem dX1_add_66 : decode cX1_add 66 = .ok (.dup, 1) := by decide +kernel
theorem dX1_add_67 : decode cX1_add 67 = .ok (.getfield 27, 3) := by decide +kernel
theorem dX1_add_70 : decode cX1_add 70 = .ok (.iconst 1, 1) := by decide +kernel
theorem dX1_add_71 : decode cX1_add 71 = .ok (.iadd, 1) := by decide +kernel
theorem dX1_add_72 : decode cX1_add 72 = .ok (.putfield 27, 3) := by decide +kernel
theorem dX1_add_75 : decode cX1_add 75 = .ok (.aload_n 0, 1) := by decide +kernel
theorem dX1_add_76 : decode cX1_add 76 = .ok (.getfield 27, 3) := by decide +kernel
theorem dX1_add_79 : decode cX1_add 79 = .ok (.iconst 1, 1) := by decide +kernel
theorem dX1_add_80 : decode cX1_add 80 = .ok (.isub, 1) := by decide +kernel
theorem dX1_add_81 : decode cX1_add 81 = .ok (.ireturn, 1) := by decide +kernel
theorem dX1_ruling_0 : decode cX1_ruling 0 = .ok (.aload_n 0, 1) := by decide +kernel
theorem dX1_ruling_1 : decode cX1_ruling 1 = .ok (.getfield 27, 3) := by decide +kernel
theorem dX1_ruling_4 : decode cX1_ruling 4 = .ok (.iconst 1, 1) := by decide +kernel
theorem dX1_ruling_5 : decode cX1_ruling 5 = .ok (.isub, 1) := by decide +kernel
theorem dX1_ruling_6 : decode cX1_ruling 6 = .ok (.istore_n 3, 1) := by decide +kernel
theorem dX1_ruling_7 : decode cX1_ruling 7 = .ok (.iload_n 3, 1) := by decide +kernel
theorem dX1_ruling_8 : decode cX1_ruling 8 = .ok (.ifCond .lt 31, 3) := by decide +kernel
theorem dX1_ruling_11 : decode cX1_ruling 11 = .ok (.aload_n 0, 1) := by decide +kernel
theorem dX1_ruling_12 : decode cX1_ruling 12 = .ok (.getfield 9, 3) := by decide +kernel
theorem dX1_ruling_15 : decode cX1_ruling 15 = .ok (.iload_n 3, 1) := by decide +kernel
theorem dX1_ruling_16 : decode cX1_ruling 16 = .ok (.iaload, 1) := by decide +kernel
theorem dX1_ruling_17 : decode cX1_ruling 17 = .ok (.iload_n 1, 1) := by decide +kernel
theorem dX1_ruling_18 : decode cX1_ruling 18 = .ok (.if_icmp .ne 15, 3) := by decide +kernel
theorem dX1_ruling_21 : decode cX1_ruling 21 = .ok (.aload_n 0, 1) := by decide +kernel
theorem dX1_ruling_22 : decode cX1_ruling 22 = .ok (.getfield 15, 3) := by decide +kernel
theorem dX1_ruling_25 : decode cX1_ruling 25 = .ok (.iload_n 3, 1) := by decide +kernel
theorem dX1_ruling_26 : decode cX1_ruling 26 = .ok (.iaload, 1) := by decide +kernel
theorem dX1_ruling_27 : decode cX1_ruling 27 = .ok (.iload_n 2, 1) := by decide +kernel
theorem dX1_ruling_28 : decode cX1_ruling 28 = .ok (.if_icmp .gt 5, 3) := by decide +kernel
theorem dX1_ruling_31 : decode cX1_ruling 31 = .ok (.iload_n 3, 1) := by decide +kernel
theorem dX1_ruling_32 : decode cX1_ruling 32 = .ok (.ireturn, 1) := by decide +kernel
theorem dX1_ruling_33 : decode cX1_ruling 33 = .ok (.iinc 3 (-1), 3) := by decide +kernel
theorem dX1_ruling_36 : decode cX1_ruling 36 = .ok (.goto (-29), 3) := by decide +kernel
theorem dX1_ruling_39 : decode cX1_ruling 39 = .ok (.iconst (-1), 1) := by decide +kernel
theorem dX1_ruling_40 : decode cX1_ruling 40 = .ok (.ireturn, 1) := by decide +kernel
theorem dX1_unitPrice_0 : decode cX1_unitPrice 0 = .ok (.aload_n 0, 1) := by decide +kernel
theorem dX1_unitPrice_1 : decode cX1_unitPrice 1 = .ok (.iload_n 1, 1) := by decide +kernel
theorem dX1_unitPrice_2 : decode cX1_unitPrice 2 = .ok (.invokevirtual 41, 3) := by decide +kernel
theorem dX1_unitPrice_5 : decode cX1_unitPrice 5 = .ok (.ifCond .eq 20, 3) := by decide +kernel
theorem dX1_unitPrice_8 : decode cX1_unitPrice 8 = .ok (.iconst 0, 1) := by decide +kernel
theorem dX1_unitPrice_9 : decode cX1_unitPrice 9 = .ok (.aload_n 0, 1) := by decide +kernel
theorem dX1_unitPrice_10 : decode cX1_unitPrice 10 = .ok (.iload_n 1, 1) := by decide +kernel
theorem dX1_unitPrice_11 : decode cX1_unitPrice 11 = .ok (.aload_n 2, 1) := by decide +kernel
theorem dX1_unitPrice_12 : decode cX1_unitPrice 12 = .ok (.iload_n 3, 1) := by decide +kernel
theorem dX1_unitPrice_13 : decode cX1_unitPrice 13 = .ok (.iconst 0, 1) := by decide +kernel
theorem dX1_unitPrice_14 : decode cX1_unitPrice 14 = .ok (.invokevirtual 45, 3) := by decide +kernel
theorem dX1_unitPrice_17 : decode cX1_unitPrice 17 = .ok (.bipush 99, 2) := by decide +kernel
theorem dX1_unitPrice_19 : decode cX1_unitPrice 19 = .ok (.invokestatic 49, 3) := by decide +kernel
theorem dX1_unitPrice_22 : decode cX1_unitPrice 22 = .ok (.goto 5, 3) := by decide +kernel
theorem dX1_unitPrice_25 : decode cX1_unitPrice 25 = .ok (.bipush 20, 2) := by decide +kernel
theorem dX1_unitPrice_27 : decode cX1_unitPrice 27 = .ok (.ireturn, 1) := by decide +kernel
theorem dX1_standingOf_0 : decode cX1_standingOf 0 = .ok (.aload_n 0, 1) := by decide +kernel
theorem dX1_standingOf_1 : decode cX1_standingOf 1 = .ok (.iconst 1, 1) := by decide +kernel
theorem dX1_standingOf_2 : decode cX1_standingOf 2 = .ok (.iload_n 2, 1) := by decide +kernel
theorem dX1_standingOf_3 : decode cX1_standingOf 3 = .ok (.invokevirtual 53, 3) := by decide +kernel
theorem dX1_standingOf_6 : decode cX1_standingOf 6 = .ok (.istore_n 3, 1) := by decide +kernel
theorem dX1_standingOf_7 : decode cX1_standingOf 7 = .ok (.aload_n 0, 1) := by decide +kernel
theorem dX1_standingOf_8 : decode cX1_standingOf 8 = .ok (.iload_n 3, 1) := by decide +kernel
theorem dX1_standingOf_9 : decode cX1_standingOf 9 = .ok (.invokevirtual 41, 3) := by decide +kernel
theorem dX1_standingOf_12 : decode cX1_standingOf 12 = .ok (.ifCond .eq 21, 3) := by decide +kernel
theorem dX1_standingOf_15 : decode cX1_standingOf 15 = .ok (.iconst 0, 1) := by decide +kernel
theorem dX1_standingOf_16 : decode cX1_standingOf 16 = .ok (.aload_n 0, 1) := by decide +kernel
theorem dX1_standingOf_17 : decode cX1_standingOf 17 = .ok (.iload_n 3, 1) := by decide +kernel
theorem dX1_standingOf_18 : decode cX1_standingOf 18 = .ok (.aload_n 1, 1) := by decide +kernel
theorem dX1_standingOf_19 : decode cX1_standingOf 19 = .ok (.iload_n 2, 1) := by decide +kernel
theorem dX1_standingOf_20 : decode cX1_standingOf 20 = .ok (.iconst 0, 1) := by decide +kernel
theorem dX1_standingOf_21 : decode cX1_standingOf 21 = .ok (.invokevirtual 45, 3) := by decide +kernel
theorem dX1_standingOf_24 : decode cX1_standingOf 24 = .ok (.sipush 999, 3) := by decide +kernel
theorem dX1_standingOf_27 : decode cX1_standingOf 27 = .ok (.invokestatic 49, 3) := by decide +kernel
theorem dX1_standingOf_30 : decode cX1_standingOf 30 = .ok (.goto 5, 3) := by decide +kernel
theorem dX1_standingOf_33 : decode cX1_standingOf 33 = .ok (.bipush 30, 2) := by decide +kernel
theorem dX1_standingOf_35 : decode cX1_standingOf 35 = .ok (.ireturn, 1) := by decide +kernel
theorem dX1_takenFrom_0 : decode cX1_takenFrom 0 = .ok (.aload_n 0, 1) := by decide +kernel
theorem dX1_takenFrom_1 : decode cX1_takenFrom 1 = .ok (.iconst 2, 1) := by decide +kernel
theorem dX1_takenFrom_2 : decode cX1_takenFrom 2 = .ok (.iload_n 2, 1) := by decide +kernel
theorem dX1_takenFrom_3 : decode cX1_takenFrom 3 = .ok (.invokevirtual 53, 3) := by decide +kernel
theorem dX1_takenFrom_6 : decode cX1_takenFrom 6 = .ok (.istore 4, 2) := by decide +kernel
theorem dX1_takenFrom_8 : decode cX1_takenFrom 8 = .ok (.aload_n 0, 1) := by decide +kernel
theorem dX1_takenFrom_9 : decode cX1_takenFrom 9 = .ok (.iload 4, 2) := by decide +kernel
theorem dX1_takenFrom_11 : decode cX1_takenFrom 11 = .ok (.invokevirtual 41, 3) := by decide +kernel
theorem dX1_takenFrom_14 : decode cX1_takenFrom 14 = .ok (.ifCond .eq 27, 3) := by decide +kernel
theorem dX1_takenFrom_17 : decode cX1_takenFrom 17 = .ok (.iconst 0, 1) := by decide +kernel
theorem dX1_takenFrom_18 : decode cX1_takenFrom 18 = .ok (.aload_n 0, 1) := by decide +kernel
theorem dX1_takenFrom_19 : decode cX1_takenFrom 19 = .ok (.iload 4, 2) := by decide +kernel
theorem dX1_takenFrom_21 : decode cX1_takenFrom 21 = .ok (.aload_n 1, 1) := by decide +kernel
theorem dX1_takenFrom_22 : decode cX1_takenFrom 22 = .ok (.iload_n 2, 1) := by decide +kernel
theorem dX1_takenFrom_23 : decode cX1_takenFrom 23 = .ok (.iload_n 3, 1) := by decide +kernel
theorem dX1_takenFrom_24 : decode cX1_takenFrom 24 = .ok (.invokevirtual 45, 3) := by decide +kernel
theorem dX1_takenFrom_27 : decode cX1_takenFrom 27 = .ok (.iload_n 3, 1) := by decide +kernel
theorem dX1_takenFrom_28 : decode cX1_takenFrom 28 = .ok (.invokestatic 49, 3) := by decide +kernel
theorem dX1_takenFrom_31 : decode cX1_takenFrom 31 = .ok (.aload_n 1, 1) := by decide +kernel
theorem dX1_takenFrom_32 : decode cX1_takenFrom 32 = .ok (.getfield 57, 3) := by decide +kernel
theorem dX1_takenFrom_35 : decode cX1_takenFrom 35 = .ok (.invokestatic 62, 3) := by decide +kernel
theorem dX1_takenFrom_38 : decode cX1_takenFrom 38 = .ok (.goto 4, 3) := by decide +kernel
theorem dX1_takenFrom_41 : decode cX1_takenFrom 41 = .ok (.iconst 0, 1) := by decide +kernel
theorem dX1_takenFrom_42 : decode cX1_takenFrom 42 = .ok (.ireturn, 1) := by decide +kernel
theorem dX1_allowForcing_0 : decode cX1_allowForcing 0 = .ok (.aload_n 0, 1) := by decide +kernel
theorem dX1_allowForcing_1 : decode cX1_allowForcing 1 = .ok (.iconst 3, 1) := by decide +kernel
theorem dX1_allowForcing_2 : decode cX1_allowForcing 2 = .ok (.iload_n 2, 1) := by decide +kernel
theorem dX1_allowForcing_3 : decode cX1_allowForcing 3 = .ok (.invokevirtual 53, 3) := by decide +kernel
theorem dX1_allowForcing_6 : decode cX1_allowForcing 6 = .ok (.istore_n 3, 1) := by decide +kernel
theorem dX1_allowForcing_7 : decode cX1_allowForcing 7 = .ok (.aload_n 0, 1) := by decide +kernel
theorem dX1_allowForcing_8 : decode cX1_allowForcing 8 = .ok (.iload_n 3, 1) := by decide +kernel
theorem dX1_allowForcing_9 : decode cX1_allowForcing 9 = .ok (.invokevirtual 41, 3) := by decide +kernel
theorem dX1_allowForcing_12 : decode cX1_allowForcing 12 = .ok (.ifCond .eq 29, 3) := by decide +kernel
theorem dX1_allowForcing_15 : decode cX1_allowForcing 15 = .ok (.aload_n 1, 1) := by decide +kernel
theorem dX1_allowForcing_16 : decode cX1_allowForcing 16 = .ok (.getfield 57, 3) := by decide +kernel
theorem dX1_allowForcing_19 : decode cX1_allowForcing 19 = .ok (.ifCond .le 18, 3) := by decide +kernel
theorem dX1_allowForcing_22 : decode cX1_allowForcing 22 = .ok (.aload_n 0, 1) := by decide +kernel
theorem dX1_allowForcing_23 : decode cX1_allowForcing 23 = .ok (.iload_n 3, 1) := by decide +kernel
theorem dX1_allowForcing_24 : decode cX1_allowForcing 24 = .ok (.aload_n 1, 1) := by decide +kernel
theorem dX1_allowForcing_25 : decode cX1_allowForcing 25 = .ok (.iload_n 2, 1) := by decide +kernel
theorem dX1_allowForcing_26 : decode cX1_allowForcing 26 = .ok (.iconst 0, 1) := by decide +kernel
theorem dX1_allowForcing_27 : decode cX1_allowForcing 27 = .ok (.invokevirtual 45, 3) := by decide +kernel
theorem dX1_allowForcing_30 : decode cX1_allowForcing 30 = .ok (.ifCond .eq 7, 3) := by decide +kernel
theorem dX1_allowForcing_33 : decode cX1_allowForcing 33 = .ok (.iconst 1, 1) := by decide +kernel
theorem dX1_allowForcing_34 : decode cX1_allowForcing 34 = .ok (.goto 22, 3) := by decide +kernel
theorem dX1_allowForcing_37 : decode cX1_allowForcing 37 = .ok (.iconst 0, 1) := by decide +kernel
theorem dX1_allowForcing_38 : decode cX1_allowForcing 38 = .ok (.goto 18, 3) := by decide +kernel
theorem dX1_allowForcing_41 : decode cX1_allowForcing 41 = .ok (.aload_n 1, 1) := by decide +kernel
theorem dX1_allowForcing_42 : decode cX1_allowForcing 42 = .ok (.getfield 57, 3) := by decide +kernel
theorem dX1_allowForcing_45 : decode cX1_allowForcing 45 = .ok (.sipush 10000, 3) := by decide +kernel
theorem dX1_allowForcing_48 : decode cX1_allowForcing 48 = .ok (.if_icmp .le 7, 3) := by decide +kernel
theorem dX1_allowForcing_51 : decode cX1_allowForcing 51 = .ok (.iconst 1, 1) := by decide +kernel
theorem dX1_allowForcing_52 : decode cX1_allowForcing 52 = .ok (.goto 4, 3) := by decide +kernel
theorem dX1_allowForcing_55 : decode cX1_allowForcing 55 = .ok (.iconst 0, 1) := by decide +kernel
theorem dX1_allowForcing_56 : decode cX1_allowForcing 56 = .ok (.ireturn, 1) := by decide +kernel
theorem dX1_worth_0 : decode cX1_worth 0 = .ok (.aload_n 0, 1) := by decide +kernel
theorem dX1_worth_1 : decode cX1_worth 1 = .ok (.iload_n 1, 1) := by decide +kernel
theorem dX1_worth_2 : decode cX1_worth 2 = .ok (.invokevirtual 41, 3) := by decide +kernel
theorem dX1_worth_5 : decode cX1_worth 5 = .ok (.ifCond .ne 5, 3) := by decide +kernel
theorem dX1_worth_8 : decode cX1_worth 8 = .ok (.iconst 0, 1) := by decide +kernel
theorem dX1_worth_9 : decode cX1_worth 9 = .ok (.ireturn, 1) := by decide +kernel
theorem dX1_worth_10 : decode cX1_worth 10 = .ok (.iload_n 1, 1) := by decide +kernel
theorem dX1_worth_11 : decode cX1_worth 11 = .ok (.bipush 60, 2) := by decide +kernel
theorem dX1_worth_13 : decode cX1_worth 13 = .ok (.imul, 1) := by decide +kernel
theorem dX1_worth_14 : decode cX1_worth 14 = .ok (.istore 5, 2) := by decide +kernel
theorem dX1_worth_16 : decode cX1_worth 16 = .ok (.iconst 0, 1) := by decide +kernel
theorem dX1_worth_17 : decode cX1_worth 17 = .ok (.istore 6, 2) := by decide +kernel
theorem dX1_worth_19 : decode cX1_worth 19 = .ok (.iconst 0, 1) := by decide +kernel
theorem dX1_worth_20 : decode cX1_worth 20 = .ok (.istore 7, 2) := by decide +kernel
theorem dX1_worth_22 : decode cX1_worth 22 = .ok (.iload 7, 2) := by decide +kernel
theorem dX1_worth_24 : decode cX1_worth 24 = .ok (.aload_n 0, 1) := by decide +kernel
theorem dX1_worth_25 : decode cX1_worth 25 = .ok (.getfield 18, 3) := by decide +kernel
theorem dX1_worth_28 : decode cX1_worth 28 = .ok (.iload_n 1, 1) := by decide +kernel
theorem dX1_worth_29 : decode cX1_worth 29 = .ok (.iaload, 1) := by decide +kernel
theorem dX1_worth_30 : decode cX1_worth 30 = .ok (.if_icmp .ge 177, 3) := by decide +kernel
theorem dX1_worth_33 : decode cX1_worth 33 = .ok (.aload_n 0, 1) := by decide +kernel
theorem dX1_worth_34 : decode cX1_worth 34 = .ok (.getfield 21, 3) := by decide +kernel
theorem dX1_worth_37 : decode cX1_worth 37 = .ok (.iload 5, 2) := by decide +kernel
theorem dX1_worth_39 : decode cX1_worth 39 = .ok (.iload 7, 2) := by decide +kernel
theorem dX1_worth_41 : decode cX1_worth 41 = .ok (.iadd, 1) := by decide +kernel
theorem dX1_worth_42 : decode cX1_worth 42 = .ok (.iaload, 1) := by decide +kernel
theorem dX1_worth_43 : decode cX1_worth 43 = .ok (.istore 8, 2) := by decide +kernel
theorem dX1_worth_45 : decode cX1_worth 45 = .ok (.iload 8, 2) := by decide +kernel
theorem dX1_worth_47 : decode cX1_worth 47 = .ok (.bipush (-97), 2) := by decide +kernel
theorem dX1_worth_49 : decode cX1_worth 49 = .ok (.if_icmp .gt 14, 3) := by decide +kernel
theorem dX1_worth_52 : decode cX1_worth 52 = .ok (.iload 8, 2) := by decide +kernel
theorem dX1_worth_54 : decode cX1_worth 54 = .ok (.bipush (-122), 2) := by decide +kernel
theorem dX1_worth_56 : decode cX1_worth 56 = .ok (.if_icmp .lt 7, 3) := by decide +kernel
theorem dX1_worth_59 : decode cX1_worth 59 = .ok (.iconst 1, 1) := by decide +kernel
theorem dX1_worth_60 : decode cX1_worth 60 = .ok (.goto 4, 3) := by decide +kernel
theorem dX1_worth_63 : decode cX1_worth 63 = .ok (.iconst 0, 1) := by decide +kernel
theorem dX1_worth_64 : decode cX1_worth 64 = .ok (.istore 9, 2) := by decide +kernel
theorem dX1_worth_66 : decode cX1_worth 66 = .ok (.iload 8, 2) := by decide +kernel
theorem dX1_worth_68 : decode cX1_worth 68 = .ok (.ifCond .ge 8, 3) := by decide +kernel
theorem dX1_worth_71 : decode cX1_worth 71 = .ok (.iload 9, 2) := by decide +kernel
theorem dX1_worth_73 : decode cX1_worth 73 = .ok (.ifCond .eq 46, 3) := by decide +kernel
theorem dX1_worth_76 : decode cX1_worth 76 = .ok (.iload 6, 2) := by decide +kernel
theorem dX1_worth_78 : decode cX1_worth 78 = .ok (.aload_n 0, 1) := by decide +kernel
theorem dX1_worth_79 : decode cX1_worth 79 = .ok (.getfield 24, 3) := by decide +kernel
theorem dX1_worth_82 : decode cX1_worth 82 = .ok (.arraylength, 1) := by decide +kernel
theorem dX1_worth_83 : decode cX1_worth 83 = .ok (.if_icmp .ge 36, 3) := by decide +kernel
theorem dX1_worth_86 : decode cX1_worth 86 = .ok (.aload_n 0, 1) := by decide +kernel
theorem dX1_worth_87 : decode cX1_worth 87 = .ok (.getfield 24, 3) := by decide +kernel
theorem dX1_worth_90 : decode cX1_worth 90 = .ok (.iload 6, 2) := by decide +kernel
theorem dX1_worth_92 : decode cX1_worth 92 = .ok (.iload 9, 2) := by decide +kernel
theorem dX1_worth_94 : decode cX1_worth 94 = .ok (.ifCond .eq 16, 3) := by decide +kernel
theorem dX1_worth_97 : decode cX1_worth 97 = .ok (.iload 8, 2) := by decide +kernel
theorem dX1_worth_99 : decode cX1_worth 99 = .ok (.ineg, 1) := by decide +kernel
theorem dX1_worth_100 : decode cX1_worth 100 = .ok (.aload_n 2, 1) := by decide +kernel
theorem dX1_worth_101 : decode cX1_worth 101 = .ok (.iload_n 3, 1) := by decide +kernel
theorem dX1_worth_102 : decode cX1_worth 102 = .ok (.iload 4, 2) := by decide +kernel
theorem dX1_worth_104 : decode cX1_worth 104 = .ok (.invokestatic 67, 3) := by decide +kernel
theorem dX1_worth_107 : decode cX1_worth 107 = .ok (.goto 5, 3) := by decide +kernel
theorem dX1_worth_110 : decode cX1_worth 110 = .ok (.iload 8, 2) := by decide +kernel
theorem dX1_worth_112 : decode cX1_worth 112 = .ok (.iastore, 1) := by decide +kernel
theorem dX1_worth_113 : decode cX1_worth 113 = .ok (.iinc 6 1, 3) := by decide +kernel
theorem dX1_worth_116 : decode cX1_worth 116 = .ok (.goto 85, 3) := by decide +kernel
theorem dX1_worth_119 : decode cX1_worth 119 = .ok (.iload 8, 2) := by decide +kernel
theorem dX1_worth_121 : decode cX1_worth 121 = .ok (.bipush (-33), 2) := by decide +kernel
theorem dX1_worth_123 : decode cX1_worth 123 = .ok (.if_icmp .ne 38, 3) := by decide +kernel
theorem dX1_worth_126 : decode cX1_worth 126 = .ok (.iload 6, 2) := by decide +kernel
theorem dX1_worth_128 : decode cX1_worth 128 = .ok (.iconst 1, 1) := by decide +kernel
theorem dX1_worth_129 : decode cX1_worth 129 = .ok (.if_icmp .lt 32, 3) := by decide +kernel
theorem dX1_worth_132 : decode cX1_worth 132 = .ok (.aload_n 0, 1) := by decide +kernel
theorem dX1_worth_133 : decode cX1_worth 133 = .ok (.getfield 24, 3) := by decide +kernel
theorem dX1_worth_136 : decode cX1_worth 136 = .ok (.iload 6, 2) := by decide +kernel
theorem dX1_worth_138 : decode cX1_worth 138 = .ok (.iconst 1, 1) := by decide +kernel
theorem dX1_worth_139 : decode cX1_worth 139 = .ok (.isub, 1) := by decide +kernel
theorem dX1_worth_140 : decode cX1_worth 140 = .ok (.aload_n 0, 1) := by decide +kernel
theorem dX1_worth_141 : decode cX1_worth 141 = .ok (.getfield 24, 3) := by decide +kernel
theorem dX1_worth_144 : decode cX1_worth 144 = .ok (.iload 6, 2) := by decide +kernel
theorem dX1_worth_146 : decode cX1_worth 146 = .ok (.iconst 1, 1) := by decide +kernel
theorem dX1_worth_147 : decode cX1_worth 147 = .ok (.isub, 1) := by decide +kernel
theorem dX1_worth_148 : decode cX1_worth 148 = .ok (.iaload, 1) := by decide +kernel
theorem dX1_worth_149 : decode cX1_worth 149 = .ok (.ifCond .ne 7, 3) := by decide +kernel
theorem dX1_worth_152 : decode cX1_worth 152 = .ok (.iconst 1, 1) := by decide +kernel
theorem dX1_worth_153 : decode cX1_worth 153 = .ok (.goto 4, 3) := by decide +kernel
theorem dX1_worth_156 : decode cX1_worth 156 = .ok (.iconst 0, 1) := by decide +kernel
theorem dX1_worth_157 : decode cX1_worth 157 = .ok (.iastore, 1) := by decide +kernel
theorem dX1_worth_158 : decode cX1_worth 158 = .ok (.goto 43, 3) := by decide +kernel
theorem dX1_worth_161 : decode cX1_worth 161 = .ok (.iload 6, 2) := by decide +kernel
theorem dX1_worth_163 : decode cX1_worth 163 = .ok (.iconst 2, 1) := by decide +kernel
theorem dX1_worth_164 : decode cX1_worth 164 = .ok (.if_icmp .lt 37, 3) := by decide +kernel
theorem dX1_worth_167 : decode cX1_worth 167 = .ok (.iinc 6 (-1), 3) := by decide +kernel
theorem dX1_worth_170 : decode cX1_worth 170 = .ok (.aload_n 0, 1) := by decide +kernel
theorem dX1_worth_171 : decode cX1_worth 171 = .ok (.getfield 24, 3) := by decide +kernel
theorem dX1_worth_174 : decode cX1_worth 174 = .ok (.iload 6, 2) := by decide +kernel
theorem dX1_worth_176 : decode cX1_worth 176 = .ok (.iconst 1, 1) := by decide +kernel
theorem dX1_worth_177 : decode cX1_worth 177 = .ok (.isub, 1) := by decide +kernel
theorem dX1_worth_178 : decode cX1_worth 178 = .ok (.aload_n 0, 1) := by decide +kernel
theorem dX1_worth_179 : decode cX1_worth 179 = .ok (.getfield 24, 3) := by decide +kernel
theorem dX1_worth_182 : decode cX1_worth 182 = .ok (.iload 6, 2) := by decide +kernel
theorem dX1_worth_184 : decode cX1_worth 184 = .ok (.iconst 1, 1) := by decide +kernel
theorem dX1_worth_185 : decode cX1_worth 185 = .ok (.isub, 1) := by decide +kernel
theorem dX1_worth_186 : decode cX1_worth 186 = .ok (.iaload, 1) := by decide +kernel
theorem dX1_worth_187 : decode cX1_worth 187 = .ok (.iload 8, 2) := by decide +kernel
theorem dX1_worth_189 : decode cX1_worth 189 = .ok (.ineg, 1) := by decide +kernel
theorem dX1_worth_190 : decode cX1_worth 190 = .ok (.aload_n 0, 1) := by decide +kernel
theorem dX1_worth_191 : decode cX1_worth 191 = .ok (.getfield 24, 3) := by decide +kernel
theorem dX1_worth_194 : decode cX1_worth 194 = .ok (.iload 6, 2) := by decide +kernel
theorem dX1_worth_196 : decode cX1_worth 196 = .ok (.iaload, 1) := by decide +kernel
theorem dX1_worth_197 : decode cX1_worth 197 = .ok (.invokestatic 70, 3) := by decide +kernel
theorem dX1_worth_200 : decode cX1_worth 200 = .ok (.iastore, 1) := by decide +kernel
theorem dX1_worth_201 : decode cX1_worth 201 = .ok (.iinc 7 1, 3) := by decide +kernel
theorem dX1_worth_204 : decode cX1_worth 204 = .ok (.goto (-182), 3) := by decide +kernel
theorem dX1_worth_207 : decode cX1_worth 207 = .ok (.aload_n 0, 1) := by decide +kernel
theorem dX1_worth_208 : decode cX1_worth 208 = .ok (.getfield 24, 3) := by decide +kernel
theorem dX1_worth_211 : decode cX1_worth 211 = .ok (.iconst 0, 1) := by decide +kernel
theorem dX1_worth_212 : decode cX1_worth 212 = .ok (.iaload, 1) := by decide +kernel
theorem dX1_worth_213 : decode cX1_worth 213 = .ok (.ireturn, 1) := by decide +kernel
theorem dX1_joined_0 : decode cX1_joined 0 = .ok (.iload_n 1, 1) := by decide +kernel
theorem dX1_joined_1 : decode cX1_joined 1 = .ok (.lookupswitch 148 #[(38, 89), (42, 144), (43, 136), (45, 140), (60, 103), (61, 114), (62, 125), (124, 75)], 75) := by decide +kernel
theorem dX1_joined_76 : decode cX1_joined 76 = .ok (.iload_n 0, 1) := by decide +kernel
theorem dX1_joined_77 : decode cX1_joined 77 = .ok (.ifCond .ne 7, 3) := by decide +kernel
theorem dX1_joined_80 : decode cX1_joined 80 = .ok (.iload_n 2, 1) := by decide +kernel
theorem dX1_joined_81 : decode cX1_joined 81 = .ok (.ifCond .eq 7, 3) := by decide +kernel
theorem dX1_joined_84 : decode cX1_joined 84 = .ok (.iconst 1, 1) := by decide +kernel
theorem dX1_joined_85 : decode cX1_joined 85 = .ok (.goto 4, 3) := by decide +kernel
theorem dX1_joined_88 : decode cX1_joined 88 = .ok (.iconst 0, 1) := by decide +kernel
theorem dX1_joined_89 : decode cX1_joined 89 = .ok (.ireturn, 1) := by decide +kernel
theorem dX1_joined_90 : decode cX1_joined 90 = .ok (.iload_n 0, 1) := by decide +kernel
theorem dX1_joined_91 : decode cX1_joined 91 = .ok (.ifCond .eq 11, 3) := by decide +kernel
theorem dX1_joined_94 : decode cX1_joined 94 = .ok (.iload_n 2, 1) := by decide +kernel
theorem dX1_joined_95 : decode cX1_joined 95 = .ok (.ifCond .eq 7, 3) := by decide +kernel
theorem dX1_joined_98 : decode cX1_joined 98 = .ok (.iconst 1, 1) := by decide +kernel
theorem dX1_joined_99 : decode cX1_joined 99 = .ok (.goto 4, 3) := by decide +kernel
theorem dX1_joined_102 : decode cX1_joined 102 = .ok (.iconst 0, 1) := by decide +kernel
theorem dX1_joined_103 : decode cX1_joined 103 = .ok (.ireturn, 1) := by decide +kernel
theorem dX1_joined_104 : decode cX1_joined 104 = .ok (.iload_n 0, 1) := by decide +kernel
theorem dX1_joined_105 : decode cX1_joined 105 = .ok (.iload_n 2, 1) := by decide +kernel
theorem dX1_joined_106 : decode cX1_joined 106 = .ok (.if_icmp .ge 7, 3) := by decide +kernel
theorem dX1_joined_109 : decode cX1_joined 109 = .ok (.iconst 1, 1) := by decide +kernel
theorem dX1_joined_110 : decode cX1_joined 110 = .ok (.goto 4, 3) := by decide +kernel
theorem dX1_joined_113 : decode cX1_joined 113 = .ok (.iconst 0, 1) := by decide +kernel
theorem dX1_joined_114 : decode cX1_joined 114 = .ok (.ireturn, 1) := by decide +kernel
theorem dX1_joined_115 : decode cX1_joined 115 = .ok (.iload_n 0, 1) := by decide +kernel
theorem dX1_joined_116 : decode cX1_joined 116 = .ok (.iload_n 2, 1) := by decide +kernel
theorem dX1_joined_117 : decode cX1_joined 117 = .ok (.if_icmp .ne 7, 3) := by decide +kernel
theorem dX1_joined_120 : decode cX1_joined 120 = .ok (.iconst 1, 1) := by decide +kernel
theorem dX1_joined_121 : decode cX1_joined 121 = .ok (.goto 4, 3) := by decide +kernel
theorem dX1_joined_124 : decode cX1_joined 124 = .ok (.iconst 0, 1) := by decide +kernel
theorem dX1_joined_125 : decode cX1_joined 125 = .ok (.ireturn, 1) := by decide +kernel
theorem dX1_joined_126 : decode cX1_joined 126 = .ok (.iload_n 0, 1) := by decide +kernel
theorem dX1_joined_127 : decode cX1_joined 127 = .ok (.iload_n 2, 1) := by decide +kernel
theorem dX1_joined_128 : decode cX1_joined 128 = .ok (.if_icmp .le 7, 3) := by decide +kernel
theorem dX1_joined_131 : decode cX1_joined 131 = .ok (.iconst 1, 1) := by decide +kernel
theorem dX1_joined_132 : decode cX1_joined 132 = .ok (.goto 4, 3) := by decide +kernel
theorem dX1_joined_135 : decode cX1_joined 135 = .ok (.iconst 0, 1) := by decide +kernel
theorem dX1_joined_136 : decode cX1_joined 136 = .ok (.ireturn, 1) := by decide +kernel
theorem dX1_joined_137 : decode cX1_joined 137 = .ok (.iload_n 0, 1) := by decide +kernel
theorem dX1_joined_138 : decode cX1_joined 138 = .ok (.iload_n 2, 1) := by decide +kernel
theorem dX1_joined_139 : decode cX1_joined 139 = .ok (.iadd, 1) := by decide +kernel
theorem dX1_joined_140 : decode cX1_joined 140 = .ok (.ireturn, 1) := by decide +kernel
theorem dX1_joined_141 : decode cX1_joined 141 = .ok (.iload_n 0, 1) := by decide +kernel
theorem dX1_joined_142 : decode cX1_joined 142 = .ok (.iload_n 2, 1) := by decide +kernel
theorem dX1_joined_143 : decode cX1_joined 143 = .ok (.isub, 1) := by decide +kernel
theorem dX1_joined_144 : decode cX1_joined 144 = .ok (.ireturn, 1) := by decide +kernel
theorem dX1_joined_145 : decode cX1_joined 145 = .ok (.iload_n 0, 1) := by decide +kernel
theorem dX1_joined_146 : decode cX1_joined 146 = .ok (.iload_n 2, 1) := by decide +kernel
theorem dX1_joined_147 : decode cX1_joined 147 = .ok (.imul, 1) := by decide +kernel
theorem dX1_joined_148 : decode cX1_joined 148 = .ok (.ireturn, 1) := by decide +kernel
theorem dX1_joined_149 : decode cX1_joined 149 = .ok (.iload_n 2, 1) := by decide +kernel
theorem dX1_joined_150 : decode cX1_joined 150 = .ok (.ifCond .ne 7, 3) := by decide +kernel
theorem dX1_joined_153 : decode cX1_joined 153 = .ok (.iconst 0, 1) := by decide +kernel
theorem dX1_joined_154 : decode cX1_joined 154 = .ok (.goto 6, 3) := by decide +kernel
theorem dX1_joined_157 : decode cX1_joined 157 = .ok (.iload_n 0, 1) := by decide +kernel
theorem dX1_joined_158 : decode cX1_joined 158 = .ok (.iload_n 2, 1) := by decide +kernel
theorem dX1_joined_159 : decode cX1_joined 159 = .ok (.idiv, 1) := by decide +kernel
theorem dX1_joined_160 : decode cX1_joined 160 = .ok (.ireturn, 1) := by decide +kernel
theorem dX1_named_0 : decode cX1_named 0 = .ok (.iload_n 0, 1) := by decide +kernel
theorem dX1_named_1 : decode cX1_named 1 = .ok (.tableswitch 124 99 117 #[119, 96, 124, 124, 124, 91, 124, 124, 109, 124, 124, 124, 114, 124, 124, 124, 124, 124, 104], 91) := by decide +kernel
theorem dX1_named_92 : decode cX1_named 92 = .ok (.iload_n 2, 1) := by decide +kernel
theorem dX1_named_93 : decode cX1_named 93 = .ok (.bipush 24, 2) := by decide +kernel
theorem dX1_named_95 : decode cX1_named 95 = .ok (.irem, 1) := by decide +kernel
theorem dX1_named_96 : decode cX1_named 96 = .ok (.ireturn, 1) := by decide +kernel
theorem dX1_named_97 : decode cX1_named 97 = .ok (.iload_n 2, 1) := by decide +kernel
theorem dX1_named_98 : decode cX1_named 98 = .ok (.bipush 24, 2) := by decide +kernel
theorem dX1_named_100 : decode cX1_named 100 = .ok (.idiv, 1) := by decide +kernel
theorem dX1_named_101 : decode cX1_named 101 = .ok (.bipush 7, 2) := by decide +kernel
theorem dX1_named_103 : decode cX1_named 103 = .ok (.irem, 1) := by decide +kernel
theorem dX1_named_104 : decode cX1_named 104 = .ok (.ireturn, 1) := by decide +kernel
theorem dX1_named_105 : decode cX1_named 105 = .ok (.aload_n 1, 1) := by decide +kernel
theorem dX1_named_106 : decode cX1_named 106 = .ok (.getfield 73, 3) := by decide +kernel
theorem dX1_named_109 : decode cX1_named 109 = .ok (.ireturn, 1) := by decide +kernel
theorem dX1_named_110 : decode cX1_named 110 = .ok (.aload_n 1, 1) := by decide +kernel
theorem dX1_named_111 : decode cX1_named 111 = .ok (.getfield 76, 3) := by decide +kernel
theorem dX1_named_114 : decode cX1_named 114 = .ok (.ireturn, 1) := by decide +kernel
theorem dX1_named_115 : decode cX1_named 115 = .ok (.aload_n 1, 1) := by decide +kernel
theorem dX1_named_116 : decode cX1_named 116 = .ok (.getfield 57, 3) := by decide +kernel
theorem dX1_named_119 : decode cX1_named 119 = .ok (.ireturn, 1) := by decide +kernel
theorem dX1_named_120 : decode cX1_named 120 = .ok (.aload_n 1, 1) := by decide +kernel
theorem dX1_named_121 : decode cX1_named 121 = .ok (.getfield 79, 3) := by decide +kernel
theorem dX1_named_124 : decode cX1_named 124 = .ok (.ireturn, 1) := by decide +kernel
theorem dX1_named_125 : decode cX1_named 125 = .ok (.iload_n 3, 1) := by decide +kernel
theorem dX1_named_126 : decode cX1_named 126 = .ok (.ireturn, 1) := by decide +kernel
theorem dX1_copyFrom_0 : decode cX1_copyFrom 0 = .ok (.aload_n 0, 1) := by decide +kernel
theorem dX1_copyFrom_1 : decode cX1_copyFrom 1 = .ok (.aload_n 1, 1) := by decide +kernel
theorem dX1_copyFrom_2 : decode cX1_copyFrom 2 = .ok (.getfield 27, 3) := by decide +kernel
theorem dX1_copyFrom_5 : decode cX1_copyFrom 5 = .ok (.putfield 27, 3) := by decide +kernel
theorem dX1_copyFrom_8 : decode cX1_copyFrom 8 = .ok (.aload_n 1, 1) := by decide +kernel
theorem dX1_copyFrom_9 : decode cX1_copyFrom 9 = .ok (.getfield 9, 3) := by decide +kernel
theorem dX1_copyFrom_12 : decode cX1_copyFrom 12 = .ok (.iconst 0, 1) := by decide +kernel
theorem dX1_copyFrom_13 : decode cX1_copyFrom 13 = .ok (.aload_n 0, 1) := by decide +kernel
theorem dX1_copyFrom_14 : decode cX1_copyFrom 14 = .ok (.getfield 9, 3) := by decide +kernel
theorem dX1_copyFrom_17 : decode cX1_copyFrom 17 = .ok (.iconst 0, 1) := by decide +kernel
theorem dX1_copyFrom_18 : decode cX1_copyFrom 18 = .ok (.bipush 12, 2) := by decide +kernel
theorem dX1_copyFrom_20 : decode cX1_copyFrom 20 = .ok (.invokestatic 35, 3) := by decide +kernel
theorem dX1_copyFrom_23 : decode cX1_copyFrom 23 = .ok (.aload_n 1, 1) := by decide +kernel
theorem dX1_copyFrom_24 : decode cX1_copyFrom 24 = .ok (.getfield 15, 3) := by decide +kernel
theorem dX1_copyFrom_27 : decode cX1_copyFrom 27 = .ok (.iconst 0, 1) := by decide +kernel
theorem dX1_copyFrom_28 : decode cX1_copyFrom 28 = .ok (.aload_n 0, 1) := by decide +kernel
theorem dX1_copyFrom_29 : decode cX1_copyFrom 29 = .ok (.getfield 15, 3) := by decide +kernel
theorem dX1_copyFrom_32 : decode cX1_copyFrom 32 = .ok (.iconst 0, 1) := by decide +kernel
theorem dX1_copyFrom_33 : decode cX1_copyFrom 33 = .ok (.bipush 12, 2) := by decide +kernel
theorem dX1_copyFrom_35 : decode cX1_copyFrom 35 = .ok (.invokestatic 35, 3) := by decide +kernel
theorem dX1_copyFrom_38 : decode cX1_copyFrom 38 = .ok (.aload_n 1, 1) := by decide +kernel
theorem dX1_copyFrom_39 : decode cX1_copyFrom 39 = .ok (.getfield 18, 3) := by decide +kernel
theorem dX1_copyFrom_42 : decode cX1_copyFrom 42 = .ok (.iconst 0, 1) := by decide +kernel
theorem dX1_copyFrom_43 : decode cX1_copyFrom 43 = .ok (.aload_n 0, 1) := by decide +kernel
theorem dX1_copyFrom_44 : decode cX1_copyFrom 44 = .ok (.getfield 18, 3) := by decide +kernel
theorem dX1_copyFrom_47 : decode cX1_copyFrom 47 = .ok (.iconst 0, 1) := by decide +kernel
theorem dX1_copyFrom_48 : decode cX1_copyFrom 48 = .ok (.bipush 12, 2) := by decide +kernel
theorem dX1_copyFrom_50 : decode cX1_copyFrom 50 = .ok (.invokestatic 35, 3) := by decide +kernel
theorem dX1_copyFrom_53 : decode cX1_copyFrom 53 = .ok (.aload_n 1, 1) := by decide +kernel
theorem dX1_copyFrom_54 : decode cX1_copyFrom 54 = .ok (.getfield 21, 3) := by decide +kernel
theorem dX1_copyFrom_57 : decode cX1_copyFrom 57 = .ok (.iconst 0, 1) := by decide +kernel
theorem dX1_copyFrom_58 : decode cX1_copyFrom 58 = .ok (.aload_n 0, 1) := by decide +kernel
theorem dX1_copyFrom_59 : decode cX1_copyFrom 59 = .ok (.getfield 21, 3) := by decide +kernel
theorem dX1_copyFrom_62 : decode cX1_copyFrom 62 = .ok (.iconst 0, 1) := by decide +kernel
theorem dX1_copyFrom_63 : decode cX1_copyFrom 63 = .ok (.sipush 720, 3) := by decide +kernel
theorem dX1_copyFrom_66 : decode cX1_copyFrom 66 = .ok (.invokestatic 35, 3) := by decide +kernel
theorem dX1_copyFrom_69 : decode cX1_copyFrom 69 = .ok (.return_, 1) := by decide +kernel
theorem dX2_init_0 : decode cX2_init 0 = .ok (.aload_n 0, 1) := by decide +kernel
theorem dX2_init_1 : decode cX2_init 1 = .ok (.invokespecial 3, 3) := by decide +kernel
theorem dX2_init_4 : decode cX2_init 4 = .ok (.aload_n 0, 1) := by decide +kernel
theorem dX2_init_5 : decode cX2_init 5 = .ok (.bipush 24, 2) := by decide +kernel
theorem dX2_init_7 : decode cX2_init 7 = .ok (.newarray .int, 2) := by decide +kernel
theorem dX2_init_9 : decode cX2_init 9 = .ok (.putfield 9, 3) := by decide +kernel
theorem dX2_init_12 : decode cX2_init 12 = .ok (.return_, 1) := by decide +kernel
theorem dX2_begin_0 : decode cX2_begin 0 = .ok (.aload_n 0, 1) := by decide +kernel
theorem dX2_begin_1 : decode cX2_begin 1 = .ok (.iload_n 1, 1) := by decide +kernel
theorem dX2_begin_2 : decode cX2_begin 2 = .ok (.putfield 15, 3) := by decide +kernel
theorem dX2_begin_5 : decode cX2_begin 5 = .ok (.aload_n 0, 1) := by decide +kernel
theorem dX2_begin_6 : decode cX2_begin 6 = .ok (.iload_n 2, 1) := by decide +kernel
theorem dX2_begin_7 : decode cX2_begin 7 = .ok (.putfield 19, 3) := by decide +kernel
theorem dX2_begin_10 : decode cX2_begin 10 = .ok (.aload_n 0, 1) := by decide +kernel
theorem dX2_begin_11 : decode cX2_begin 11 = .ok (.iload_n 3, 1) := by decide +kernel
theorem dX2_begin_12 : decode cX2_begin 12 = .ok (.bipush 100, 2) := by decide +kernel
theorem dX2_begin_14 : decode cX2_begin 14 = .ok (.idiv, 1) := by decide +kernel
theorem dX2_begin_15 : decode cX2_begin 15 = .ok (.putfield 22, 3) := by decide +kernel
theorem dX2_begin_18 : decode cX2_begin 18 = .ok (.aload_n 0, 1) := by decide +kernel
theorem dX2_begin_19 : decode cX2_begin 19 = .ok (.iload_n 3, 1) := by decide +kernel
theorem dX2_begin_20 : decode cX2_begin 20 = .ok (.bipush 100, 2) := by decide +kernel
theorem dX2_begin_22 : decode cX2_begin 22 = .ok (.irem, 1) := by decide +kernel
theorem dX2_begin_23 : decode cX2_begin 23 = .ok (.putfield 25, 3) := by decide +kernel
theorem dX2_begin_26 : decode cX2_begin 26 = .ok (.aload_n 0, 1) := by decide +kernel
theorem dX2_begin_27 : decode cX2_begin 27 = .ok (.iconst 0, 1) := by decide +kernel
theorem dX2_begin_28 : decode cX2_begin 28 = .ok (.putfield 28, 3) := by decide +kernel
theorem dX2_begin_31 : decode cX2_begin 31 = .ok (.aload_n 0, 1) := by decide +kernel
theorem dX2_begin_32 : decode cX2_begin 32 = .ok (.iconst 0, 1) := by decide +kernel
theorem dX2_begin_33 : decode cX2_begin 33 = .ok (.putfield 31, 3) := by decide +kernel
theorem dX2_begin_36 : decode cX2_begin 36 = .ok (.aload_n 0, 1) := by decide +kernel
theorem dX2_begin_37 : decode cX2_begin 37 = .ok (.iconst 0, 1) := by decide +kernel
theorem dX2_begin_38 : decode cX2_begin 38 = .ok (.putfield 34, 3) := by decide +kernel
theorem dX2_begin_41 : decode cX2_begin 41 = .ok (.aload_n 0, 1) := by decide +kernel
theorem dX2_begin_42 : decode cX2_begin 42 = .ok (.iconst 1, 1) := by decide +kernel
theorem dX2_begin_43 : decode cX2_begin 43 = .ok (.putfield 37, 3) := by decide +kernel
theorem dX2_begin_46 : decode cX2_begin 46 = .ok (.aload_n 0, 1) := by decide +kernel
theorem dX2_begin_47 : decode cX2_begin 47 = .ok (.iconst 0, 1) := by decide +kernel
theorem dX2_begin_48 : decode cX2_begin 48 = .ok (.putfield 41, 3) := by decide +kernel
theorem dX2_begin_51 : decode cX2_begin 51 = .ok (.aload_n 0, 1) := by decide +kernel
theorem dX2_begin_52 : decode cX2_begin 52 = .ok (.iconst 0, 1) := by decide +kernel
theorem dX2_begin_53 : decode cX2_begin 53 = .ok (.putfield 44, 3) := by decide +kernel
theorem dX2_begin_56 : decode cX2_begin 56 = .ok (.aload_n 0, 1) := by decide +kernel
theorem dX2_begin_57 : decode cX2_begin 57 = .ok (.iconst 0, 1) := by decide +kernel
theorem dX2_begin_58 : decode cX2_begin 58 = .ok (.putfield 47, 3) := by decide +kernel
theorem dX2_begin_61 : decode cX2_begin 61 = .ok (.aload_n 0, 1) := by decide +kernel
theorem dX2_begin_62 : decode cX2_begin 62 = .ok (.iconst 0, 1) := by decide +kernel
theorem dX2_begin_63 : decode cX2_begin 63 = .ok (.putfield 50, 3) := by decide +kernel
theorem dX2_begin_66 : decode cX2_begin 66 = .ok (.aload_n 0, 1) := by decide +kernel
theorem dX2_begin_67 : decode cX2_begin 67 = .ok (.iconst 0, 1) := by decide +kernel
theorem dX2_begin_68 : decode cX2_begin 68 = .ok (.putfield 53, 3) := by decide +kernel
theorem dX2_begin_71 : decode cX2_begin 71 = .ok (.aload_n 0, 1) := by decide +kernel
theorem dX2_begin_72 : decode cX2_begin 72 = .ok (.iconst (-1), 1) := by decide +kernel
theorem dX2_begin_73 : decode cX2_begin 73 = .ok (.putfield 56, 3) := by decide +kernel
theorem dX2_begin_76 : decode cX2_begin 76 = .ok (.iconst 0, 1) := by decide +kernel
theorem dX2_begin_77 : decode cX2_begin 77 = .ok (.istore 4, 2) := by decide +kernel
theorem dX2_begin_79 : decode cX2_begin 79 = .ok (.iload 4, 2) := by decide +kernel
theorem dX2_begin_81 : decode cX2_begin 81 = .ok (.aload_n 0, 1) := by decide +kernel
theorem dX2_begin_82 : decode cX2_begin 82 = .ok (.getfield 9, 3) := by decide +kernel
theorem dX2_begin_85 : decode cX2_begin 85 = .ok (.arraylength, 1) := by decide +kernel
theorem dX2_begin_86 : decode cX2_begin 86 = .ok (.if_icmp .ge 17, 3) := by decide +kernel
theorem dX2_begin_89 : decode cX2_begin 89 = .ok (.aload_n 0, 1) := by decide +kernel
theorem dX2_begin_90 : decode cX2_begin 90 = .ok (.getfield 9, 3) := by decide +kernel
theorem dX2_begin_93 : decode cX2_begin 93 = .ok (.iload 4, 2) := by decide +kernel
theorem dX2_begin_95 : decode cX2_begin 95 = .ok (.iconst 1, 1) := by decide +kernel
theorem dX2_begin_96 : decode cX2_begin 96 = .ok (.iastore, 1) := by decide +kernel
theorem dX2_begin_97 : decode cX2_begin 97 = .ok (.iinc 4 1, 3) := by decide +kernel
theorem dX2_begin_100 : decode cX2_begin 100 = .ok (.goto (-21), 3) := by decide +kernel
theorem dX2_begin_103 : decode cX2_begin 103 = .ok (.return_, 1) := by decide +kernel
theorem dX2_copyFrom_0 : decode cX2_copyFrom 0 = .ok (.aload_n 0, 1) := by decide +kernel
theorem dX2_copyFrom_1 : decode cX2_copyFrom 1 = .ok (.aload_n 1, 1) := by decide +kernel
theorem dX2_copyFrom_2 : decode cX2_copyFrom 2 = .ok (.getfield 15, 3) := by decide +kernel
theorem dX2_copyFrom_5 : decode cX2_copyFrom 5 = .ok (.putfield 15, 3) := by decide +kernel
theorem dX2_copyFrom_8 : decode cX2_copyFrom 8 = .ok (.aload_n 0, 1) := by decide +kernel
theorem dX2_copyFrom_9 : decode cX2_copyFrom 9 = .ok (.aload_n 1, 1) := by decide +kernel
theorem dX2_copyFrom_10 : decode cX2_copyFrom 10 = .ok (.getfield 19, 3) := by decide +kernel
theorem dX2_copyFrom_13 : decode cX2_copyFrom 13 = .ok (.putfield 19, 3) := by decide +kernel
theorem dX2_copyFrom_16 : decode cX2_copyFrom 16 = .ok (.aload_n 0, 1) := by decide +kernel
theorem dX2_copyFrom_17 : decode cX2_copyFrom 17 = .ok (.aload_n 1, 1) := by decide +kernel
theorem dX2_copyFrom_18 : decode cX2_copyFrom 18 = .ok (.getfield 22, 3) := by decide +kernel
theorem dX2_copyFrom_21 : decode cX2_copyFrom 21 = .ok (.putfield 22, 3) := by decide +kernel
theorem dX2_copyFrom_24 : decode cX2_copyFrom 24 = .ok (.aload_n 0, 1) := by decide +kernel
theorem dX2_copyFrom_25 : decode cX2_copyFrom 25 = .ok (.aload_n 1, 1) := by decide +kernel
theorem dX2_copyFrom_26 : decode cX2_copyFrom 26 = .ok (.getfield 25, 3) := by decide +kernel
theorem dX2_copyFrom_29 : decode cX2_copyFrom 29 = .ok (.putfield 25, 3) := by decide +kernel
theorem dX2_copyFrom_32 : decode cX2_copyFrom 32 = .ok (.aload_n 0, 1) := by decide +kernel
theorem dX2_copyFrom_33 : decode cX2_copyFrom 33 = .ok (.aload_n 1, 1) := by decide +kernel
theorem dX2_copyFrom_34 : decode cX2_copyFrom 34 = .ok (.getfield 28, 3) := by decide +kernel
theorem dX2_copyFrom_37 : decode cX2_copyFrom 37 = .ok (.putfield 28, 3) := by decide +kernel
theorem dX2_copyFrom_40 : decode cX2_copyFrom 40 = .ok (.aload_n 0, 1) := by decide +kernel
theorem dX2_copyFrom_41 : decode cX2_copyFrom 41 = .ok (.aload_n 1, 1) := by decide +kernel
theorem dX2_copyFrom_42 : decode cX2_copyFrom 42 = .ok (.getfield 31, 3) := by decide +kernel
theorem dX2_copyFrom_45 : decode cX2_copyFrom 45 = .ok (.putfield 31, 3) := by decide +kernel
theorem dX2_copyFrom_48 : decode cX2_copyFrom 48 = .ok (.aload_n 0, 1) := by decide +kernel
theorem dX2_copyFrom_49 : decode cX2_copyFrom 49 = .ok (.aload_n 1, 1) := by decide +kernel
theorem dX2_copyFrom_50 : decode cX2_copyFrom 50 = .ok (.getfield 34, 3) := by decide +kernel
theorem dX2_copyFrom_53 : decode cX2_copyFrom 53 = .ok (.putfield 34, 3) := by decide +kernel
theorem dX2_copyFrom_56 : decode cX2_copyFrom 56 = .ok (.aload_n 0, 1) := by decide +kernel
theorem dX2_copyFrom_57 : decode cX2_copyFrom 57 = .ok (.aload_n 1, 1) := by decide +kernel
theorem dX2_copyFrom_58 : decode cX2_copyFrom 58 = .ok (.getfield 37, 3) := by decide +kernel
theorem dX2_copyFrom_61 : decode cX2_copyFrom 61 = .ok (.putfield 37, 3) := by decide +kernel
theorem dX2_copyFrom_64 : decode cX2_copyFrom 64 = .ok (.aload_n 0, 1) := by decide +kernel
theorem dX2_copyFrom_65 : decode cX2_copyFrom 65 = .ok (.aload_n 1, 1) := by decide +kernel
theorem dX2_copyFrom_66 : decode cX2_copyFrom 66 = .ok (.getfield 41, 3) := by decide +kernel
theorem dX2_copyFrom_69 : decode cX2_copyFrom 69 = .ok (.putfield 41, 3) := by decide +kernel
theorem dX2_copyFrom_72 : decode cX2_copyFrom 72 = .ok (.aload_n 0, 1) := by decide +kernel
theorem dX2_copyFrom_73 : decode cX2_copyFrom 73 = .ok (.aload_n 1, 1) := by decide +kernel
theorem dX2_copyFrom_74 : decode cX2_copyFrom 74 = .ok (.getfield 44, 3) := by decide +kernel
theorem dX2_copyFrom_77 : decode cX2_copyFrom 77 = .ok (.putfield 44, 3) := by decide +kernel
theorem dX2_copyFrom_80 : decode cX2_copyFrom 80 = .ok (.aload_n 0, 1) := by decide +kernel
theorem dX2_copyFrom_81 : decode cX2_copyFrom 81 = .ok (.aload_n 1, 1) := by decide +kernel
theorem dX2_copyFrom_82 : decode cX2_copyFrom 82 = .ok (.getfield 47, 3) := by decide +kernel
theorem dX2_copyFrom_85 : decode cX2_copyFrom 85 = .ok (.putfield 47, 3) := by decide +kernel
theorem dX2_copyFrom_88 : decode cX2_copyFrom 88 = .ok (.aload_n 0, 1) := by decide +kernel
theorem dX2_copyFrom_89 : decode cX2_copyFrom 89 = .ok (.aload_n 1, 1) := by decide +kernel
theorem dX2_copyFrom_90 : decode cX2_copyFrom 90 = .ok (.getfield 50, 3) := by decide +kernel
theorem dX2_copyFrom_93 : decode cX2_copyFrom 93 = .ok (.putfield 50, 3) := by decide +kernel
theorem dX2_copyFrom_96 : decode cX2_copyFrom 96 = .ok (.aload_n 0, 1) := by decide +kernel
theorem dX2_copyFrom_97 : decode cX2_copyFrom 97 = .ok (.aload_n 1, 1) := by decide +kernel
theorem dX2_copyFrom_98 : decode cX2_copyFrom 98 = .ok (.getfield 53, 3) := by decide +kernel
theorem dX2_copyFrom_101 : decode cX2_copyFrom 101 = .ok (.putfield 53, 3) := by decide +kernel
theorem dX2_copyFrom_104 : decode cX2_copyFrom 104 = .ok (.aload_n 0, 1) := by decide +kernel
theorem dX2_copyFrom_105 : decode cX2_copyFrom 105 = .ok (.aload_n 1, 1) := by decide +kernel
theorem dX2_copyFrom_106 : decode cX2_copyFrom 106 = .ok (.getfield 56, 3) := by decide +kernel
theorem dX2_copyFrom_109 : decode cX2_copyFrom 109 = .ok (.putfield 56, 3) := by decide +kernel
theorem dX2_copyFrom_112 : decode cX2_copyFrom 112 = .ok (.aload_n 1, 1) := by decide +kernel
theorem dX2_copyFrom_113 : decode cX2_copyFrom 113 = .ok (.getfield 9, 3) := by decide +kernel
theorem dX2_copyFrom_116 : decode cX2_copyFrom 116 = .ok (.iconst 0, 1) := by decide +kernel
theorem dX2_copyFrom_117 : decode cX2_copyFrom 117 = .ok (.aload_n 0, 1) := by decide +kernel
theorem dX2_copyFrom_118 : decode cX2_copyFrom 118 = .ok (.getfield 9, 3) := by decide +kernel
theorem dX2_copyFrom_121 : decode cX2_copyFrom 121 = .ok (.iconst 0, 1) := by decide +kernel
theorem dX2_copyFrom_122 : decode cX2_copyFrom 122 = .ok (.aload_n 0, 1) := by decide +kernel
theorem dX2_copyFrom_123 : decode cX2_copyFrom 123 = .ok (.getfield 9, 3) := by decide +kernel
theorem dX2_copyFrom_126 : decode cX2_copyFrom 126 = .ok (.arraylength, 1) := by decide +kernel
theorem dX2_copyFrom_127 : decode cX2_copyFrom 127 = .ok (.invokestatic 59, 3) := by decide +kernel
theorem dX2_copyFrom_130 : decode cX2_copyFrom 130 = .ok (.return_, 1) := by decide +kernel
theorem dX2_isOf_0 : decode cX2_isOf 0 = .ok (.aload_n 0, 1) := by decide +kernel
theorem dX2_isOf_1 : decode cX2_isOf 1 = .ok (.getfield 19, 3) := by decide +kernel
theorem dX2_isOf_4 : decode cX2_isOf 4 = .ok (.istore_n 2, 1) := by decide +kernel
theorem dX2_isOf_5 : decode cX2_isOf 5 = .ok (.iconst 0, 1) := by decide +kernel
theorem dX2_isOf_6 : decode cX2_isOf 6 = .ok (.istore_n 3, 1) := by decide +kernel
theorem dX2_isOf_7 : decode cX2_isOf 7 = .ok (.iload_n 3, 1) := by decide +kernel
theorem dX2_isOf_8 : decode cX2_isOf 8 = .ok (.bipush 6, 2) := by decide +kernel
theorem dX2_isOf_10 : decode cX2_isOf 10 = .ok (.if_icmp .ge 29, 3) := by decide +kernel
theorem dX2_isOf_13 : decode cX2_isOf 13 = .ok (.iload_n 2, 1) := by decide +kernel
theorem dX2_isOf_14 : decode cX2_isOf 14 = .ok (.invokestatic 65, 3) := by decide +kernel
theorem dX2_isOf_17 : decode cX2_isOf 17 = .ok (.ifCond .eq 22, 3) := by decide +kernel
theorem dX2_isOf_20 : decode cX2_isOf 20 = .ok (.iload_n 2, 1) := by decide +kernel
theorem dX2_isOf_21 : decode cX2_isOf 21 = .ok (.iload_n 1, 1) := by decide +kernel
theorem dX2_isOf_22 : decode cX2_isOf 22 = .ok (.if_icmp .ne 5, 3) := by decide +kernel
theorem dX2_isOf_25 : decode cX2_isOf 25 = .ok (.iconst 1, 1) := by decide +kernel
theorem dX2_isOf_26 : decode cX2_isOf 26 = .ok (.ireturn, 1) := by decide +kernel
theorem dX2_isOf_27 : decode cX2_isOf 27 = .ok (.getstatic 69, 3) := by decide +kernel
theorem dX2_isOf_30 : decode cX2_isOf 30 = .ok (.iload_n 2, 1) := by decide +kernel
theorem dX2_isOf_31 : decode cX2_isOf 31 = .ok (.iaload, 1) := by decide +kernel
theorem dX2_isOf_32 : decode cX2_isOf 32 = .ok (.istore_n 2, 1) := by decide +kernel
theorem dX2_isOf_33 : decode cX2_isOf 33 = .ok (.iinc 3 1, 3) := by decide +kernel
theorem dX2_isOf_36 : decode cX2_isOf 36 = .ok (.goto (-29), 3) := by decide +kernel
theorem dX2_isOf_39 : decode cX2_isOf 39 = .ok (.iconst 0, 1) := by decide +kernel
theorem dX2_isOf_40 : decode cX2_isOf 40 = .ok (.ireturn, 1) := by decide +kernel
theorem dX2_isSmart_0 : decode cX2_isSmart 0 = .ok (.aload_n 0, 1) := by decide +kernel
theorem dX2_isSmart_1 : decode cX2_isSmart 1 = .ok (.getfield 19, 3) := by decide +kernel
theorem dX2_isSmart_4 : decode cX2_isSmart 4 = .ok (.iconst 2, 1) := by decide +kernel
theorem dX2_isSmart_5 : decode cX2_isSmart 5 = .ok (.if_icmp .eq 11, 3) := by decide +kernel
theorem dX2_isSmart_8 : decode cX2_isSmart 8 = .ok (.aload_n 0, 1) := by decide +kernel
theorem dX2_isSmart_9 : decode cX2_isSmart 9 = .ok (.getfield 19, 3) := by decide +kernel
theorem dX2_isSmart_12 : decode cX2_isSmart 12 = .ok (.iconst 4, 1) := by decide +kernel
theorem dX2_isSmart_13 : decode cX2_isSmart 13 = .ok (.if_icmp .ne 7, 3) := by decide +kernel
theorem dX2_isSmart_16 : decode cX2_isSmart 16 = .ok (.iconst 1, 1) := by decide +kernel
theorem dX2_isSmart_17 : decode cX2_isSmart 17 = .ok (.goto 4, 3) := by decide +kernel
theorem dX2_isSmart_20 : decode cX2_isSmart 20 = .ok (.iconst 0, 1) := by decide +kernel
theorem dX2_isSmart_21 : decode cX2_isSmart 21 = .ok (.ireturn, 1) := by decide +kernel
theorem dX2_loadedUnder_0 : decode cX2_loadedUnder 0 = .ok (.aload_n 0, 1) := by decide +kernel
theorem dX2_loadedUnder_1 : decode cX2_loadedUnder 1 = .ok (.invokevirtual 72, 3) := by decide +kernel
theorem dX2_loadedUnder_4 : decode cX2_loadedUnder 4 = .ok (.ifCond .eq 7, 3) := by decide +kernel
theorem dX2_loadedUnder_7 : decode cX2_loadedUnder 7 = .ok (.iload_n 1, 1) := by decide +kernel
theorem dX2_loadedUnder_8 : decode cX2_loadedUnder 8 = .ok (.goto 7, 3) := by decide +kernel
theorem dX2_loadedUnder_11 : decode cX2_loadedUnder 11 = .ok (.aload_n 0, 1) := by decide +kernel
theorem dX2_loadedUnder_12 : decode cX2_loadedUnder 12 = .ok (.getfield 56, 3) := by decide +kernel
theorem dX2_loadedUnder_15 : decode cX2_loadedUnder 15 = .ok (.ireturn, 1) := by decide +kernel
theorem dX2_limit_0 : decode cX2_limit 0 = .ok (.aload_n 0, 1) := by decide +kernel
theorem dX2_limit_1 : decode cX2_limit 1 = .ok (.getfield 41, 3) := by decide +kernel
theorem dX2_limit_4 : decode cX2_limit 4 = .ok (.ifCond .eq 9, 3) := by decide +kernel
theorem dX2_limit_7 : decode cX2_limit 7 = .ok (.sipush (-500), 3) := by decide +kernel
theorem dX2_limit_10 : decode cX2_limit 10 = .ok (.goto 4, 3) := by decide +kernel
theorem dX2_limit_13 : decode cX2_limit 13 = .ok (.iconst 0, 1) := by decide +kernel
theorem dX2_limit_14 : decode cX2_limit 14 = .ok (.aload_n 0, 1) := by decide +kernel
theorem dX2_limit_15 : decode cX2_limit 15 = .ok (.getfield 19, 3) := by decide +kernel
theorem dX2_limit_18 : decode cX2_limit 18 = .ok (.iconst 5, 1) := by decide +kernel
theorem dX2_limit_19 : decode cX2_limit 19 = .ok (.if_icmp .ne 9, 3) := by decide +kernel
theorem dX2_limit_22 : decode cX2_limit 22 = .ok (.sipush 200, 3) := by decide +kernel
theorem dX2_limit_25 : decode cX2_limit 25 = .ok (.goto 4, 3) := by decide +kernel
theorem dX2_limit_28 : decode cX2_limit 28 = .ok (.iconst 0, 1) := by decide +kernel
theorem dX2_limit_29 : decode cX2_limit 29 = .ok (.isub, 1) := by decide +kernel
theorem dX2_limit_30 : decode cX2_limit 30 = .ok (.ireturn, 1) := by decide +kernel
theorem dX2_connectAboveLimit_0 : decode cX2_connectAboveLimit 0 = .ok (.aload_n 0, 1) := by decide +kernel
theorem dX2_connectAboveLimit_1 : decode cX2_connectAboveLimit 1 = .ok (.getfield 28, 3) := by decide +kernel
theorem dX2_connectAboveLimit_4 : decode cX2_connectAboveLimit 4 = .ok (.aload_n 0, 1) := by decide +kernel
theorem dX2_connectAboveLimit_5 : decode cX2_connectAboveLimit 5 = .ok (.invokevirtual 76, 3) := by decide +kernel
theorem dX2_connectAboveLimit_8 : decode cX2_connectAboveLimit 8 = .ok (.if_icmp .lt 8, 3) := by decide +kernel
theorem dX2_connectAboveLimit_11 : decode cX2_connectAboveLimit 11 = .ok (.aload_n 0, 1) := by decide +kernel
theorem dX2_connectAboveLimit_12 : decode cX2_connectAboveLimit 12 = .ok (.iconst 1, 1) := by decide +kernel
theorem dX2_connectAboveLimit_13 : decode cX2_connectAboveLimit 13 = .ok (.putfield 37, 3) := by decide +kernel
theorem dX2_connectAboveLimit_16 : decode cX2_connectAboveLimit 16 = .ok (.return_, 1) := by decide +kernel
theorem dX3_init_0 : decode cX3_init 0 = .ok (.aload_n 0, 1) := by decide +kernel
theorem dX3_init_1 : decode cX3_init 1 = .ok (.invokespecial 3, 3) := by decide +kernel
theorem dX3_init_4 : decode cX3_init 4 = .ok (.aload_n 0, 1) := by decide +kernel
theorem dX3_init_5 : decode cX3_init 5 = .ok (.bipush 40, 2) := by decide +kernel
theorem dX3_init_7 : decode cX3_init 7 = .ok (.newarray .int, 2) := by decide +kernel
theorem dX3_init_9 : decode cX3_init 9 = .ok (.putfield 9, 3) := by decide +kernel
theorem dX3_init_12 : decode cX3_init 12 = .ok (.aload_n 0, 1) := by decide +kernel
theorem dX3_init_13 : decode cX3_init 13 = .ok (.bipush 40, 2) := by decide +kernel
theorem dX3_init_15 : decode cX3_init 15 = .ok (.newarray .int, 2) := by decide +kernel
theorem dX3_init_17 : decode cX3_init 17 = .ok (.putfield 15, 3) := by decide +kernel
theorem dX3_init_20 : decode cX3_init 20 = .ok (.aload_n 0, 1) := by decide +kernel
theorem dX3_init_21 : decode cX3_init 21 = .ok (.bipush 40, 2) := by decide +kernel
theorem dX3_init_23 : decode cX3_init 23 = .ok (.newarray .int, 2) := by decide +kernel
theorem dX3_init_25 : decode cX3_init 25 = .ok (.putfield 18, 3) := by decide +kernel
theorem dX3_init_28 : decode cX3_init 28 = .ok (.aload_n 0, 1) := by decide +kernel
theorem dX3_init_29 : decode cX3_init 29 = .ok (.bipush 40, 2) := by decide +kernel
theorem dX3_init_31 : decode cX3_init 31 = .ok (.newarray .int, 2) := by decide +kernel
theorem dX3_init_33 : decode cX3_init 33 = .ok (.putfield 21, 3) := by decide +kernel
theorem dX3_init_36 : decode cX3_init 36 = .ok (.return_, 1) := by decide +kernel
theorem dX3_has_0 : decode cX3_has 0 = .ok (.iload_n 1, 1) := by decide +kernel
theorem dX3_has_1 : decode cX3_has 1 = .ok (.ifCond .lt 15, 3) := by decide +kernel
theorem dX3_has_4 : decode cX3_has 4 = .ok (.iload_n 1, 1) := by decide +kernel
theorem dX3_has_5 : decode cX3_has 5 = .ok (.aload_n 0, 1) := by decide +kernel
theorem dX3_has_6 : decode cX3_has 6 = .ok (.getfield 24, 3) := by decide +kernel
theorem dX3_has_9 : decode cX3_has 9 = .ok (.if_icmp .ge 7, 3) := by decide +kernel
theorem dX3_has_12 : decode cX3_has 12 = .ok (.iconst 1, 1) := by decide +kernel
theorem dX3_has_13 : decode cX3_has 13 = .ok (.goto 4, 3) := by decide +kernel
theorem dX3_has_16 : decode cX3_has 16 = .ok (.iconst 0, 1) := by decide +kernel
theorem dX3_has_17 : decode cX3_has 17 = .ok (.ireturn, 1) := by decide +kernel
theorem dX3_add_0 : decode cX3_add 0 = .ok (.aload_n 0, 1) := by decide +kernel
theorem dX3_add_1 : decode cX3_add 1 = .ok (.getfield 24, 3) := by decide +kernel
theorem dX3_add_4 : decode cX3_add 4 = .ok (.bipush 40, 2) := by decide +kernel
theorem dX3_add_6 : decode cX3_add 6 = .ok (.if_icmp .lt 5, 3) := by decide +kernel
theorem dX3_add_9 : decode cX3_add 9 = .ok (.iconst (-1), 1) := by decide +kernel
theorem dX3_add_10 : decode cX3_add 10 = .ok (.ireturn, 1) := by decide +kernel
theorem dX3_add_11 : decode cX3_add 11 = .ok (.aload_n 0, 1) := by decide +kernel
theorem dX3_add_12 : decode cX3_add 12 = .ok (.getfield 9, 3) := by decide +kernel
theorem dX3_add_15 : decode cX3_add 15 = .ok (.aload_n 0, 1) := by decide +kernel
theorem dX3_add_16 : decode cX3_add 16 = .ok (.getfield 24, 3) := by decide +kernel
theorem dX3_add_19 : decode cX3_add 19 = .ok (.iload_n 1, 1) := by decide +kernel
theorem dX3_add_20 : decode cX3_add 20 = .ok (.iastore, 1) := by decide +kernel
theorem dX3_add_21 : decode cX3_add 21 = .ok (.aload_n 0, 1) := by decide +kernel
theorem dX3_add_22 : decode cX3_add 22 = .ok (.getfield 15, 3) := by decide +kernel
theorem dX3_add_25 : decode cX3_add 25 = .ok (.aload_n 0, 1) := by decide +kernel
theorem dX3_add_26 : decode cX3_add 26 = .ok (.getfield 24, 3) := by decide +kernel
theorem dX3_add_29 : decode cX3_add 29 = .ok (.iload_n 2, 1) := by decide +kernel
theorem dX3_add_30 : decode cX3_add 30 = .ok (.iastore, 1) := by decide +kernel
theorem dX3_add_31 : decode cX3_add 31 = .ok (.aload_n 0, 1) := by decide +kernel
theorem dX3_add_32 : decode cX3_add 32 = .ok (.getfield 18, 3) := by decide +kernel
theorem dX3_add_35 : decode cX3_add 35 = .ok (.aload_n 0, 1) := by decide +kernel
theorem dX3_add_36 : decode cX3_add 36 = .ok (.getfield 24, 3) := by decide +kernel
theorem dX3_add_39 : decode cX3_add 39 = .ok (.iload_n 3, 1) := by decide +kernel
theorem dX3_add_40 : decode cX3_add 40 = .ok (.iastore, 1) := by decide +kernel
theorem dX3_add_41 : decode cX3_add 41 = .ok (.aload_n 0, 1) := by decide +kernel
theorem dX3_add_42 : decode cX3_add 42 = .ok (.getfield 21, 3) := by decide +kernel
theorem dX3_add_45 : decode cX3_add 45 = .ok (.aload_n 0, 1) := by decide +kernel
theorem dX3_add_46 : decode cX3_add 46 = .ok (.getfield 24, 3) := by decide +kernel
theorem dX3_add_49 : decode cX3_add 49 = .ok (.iload 4, 2) := by decide +kernel
theorem dX3_add_51 : decode cX3_add 51 = .ok (.iastore, 1) := by decide +kernel
theorem dX3_add_52 : decode cX3_add 52 = .ok (.aload_n 0, 1) := by decide +kernel
theorem dX3_add_53 : decode cX3_add 53 = .ok (.dup, 1) := by decide +kernel
theorem dX3_add_54 : decode cX3_add 54 = .ok (.getfield 24, 3) := by decide +kernel
theorem dX3_add_57 : decode cX3_add 57 = .ok (.iconst 1, 1) := by decide +kernel
theorem dX3_add_58 : decode cX3_add 58 = .ok (.iadd, 1) := by decide +kernel
theorem dX3_add_59 : decode cX3_add 59 = .ok (.putfield 24, 3) := by decide +kernel
theorem dX3_add_62 : decode cX3_add 62 = .ok (.aload_n 0, 1) := by decide +kernel
theorem dX3_add_63 : decode cX3_add 63 = .ok (.getfield 24, 3) := by decide +kernel
theorem dX3_add_66 : decode cX3_add 66 = .ok (.iconst 1, 1) := by decide +kernel
theorem dX3_add_67 : decode cX3_add 67 = .ok (.isub, 1) := by decide +kernel
theorem dX3_add_68 : decode cX3_add 68 = .ok (.ireturn, 1) := by decide +kernel
theorem dX3_latest_0 : decode cX3_latest 0 = .ok (.iconst (-1), 1) := by decide +kernel
theorem dX3_latest_1 : decode cX3_latest 1 = .ok (.istore 4, 2) := by decide +kernel
theorem dX3_latest_3 : decode cX3_latest 3 = .ok (.iconst 0, 1) := by decide +kernel
theorem dX3_latest_4 : decode cX3_latest 4 = .ok (.istore 5, 2) := by decide +kernel
theorem dX3_latest_6 : decode cX3_latest 6 = .ok (.iload 5, 2) := by decide +kernel
theorem dX3_latest_8 : decode cX3_latest 8 = .ok (.aload_n 0, 1) := by decide +kernel
theorem dX3_latest_9 : decode cX3_latest 9 = .ok (.getfield 24, 3) := by decide +kernel
theorem dX3_latest_12 : decode cX3_latest 12 = .ok (.if_icmp .ge 80, 3) := by decide +kernel
theorem dX3_latest_15 : decode cX3_latest 15 = .ok (.aload_n 0, 1) := by decide +kernel
theorem dX3_latest_16 : decode cX3_latest 16 = .ok (.getfield 9, 3) := by decide +kernel
theorem dX3_latest_19 : decode cX3_latest 19 = .ok (.iload 5, 2) := by decide +kernel
theorem dX3_latest_21 : decode cX3_latest 21 = .ok (.iaload, 1) := by decide +kernel
theorem dX3_latest_22 : decode cX3_latest 22 = .ok (.iload_n 1, 1) := by decide +kernel
theorem dX3_latest_23 : decode cX3_latest 23 = .ok (.if_icmp .ne 29, 3) := by decide +kernel
theorem dX3_latest_26 : decode cX3_latest 26 = .ok (.aload_n 0, 1) := by decide +kernel
theorem dX3_latest_27 : decode cX3_latest 27 = .ok (.getfield 15, 3) := by decide +kernel
theorem dX3_latest_30 : decode cX3_latest 30 = .ok (.iload 5, 2) := by decide +kernel
theorem dX3_latest_32 : decode cX3_latest 32 = .ok (.iaload, 1) := by decide +kernel
theorem dX3_latest_33 : decode cX3_latest 33 = .ok (.iload_n 2, 1) := by decide +kernel
theorem dX3_latest_34 : decode cX3_latest 34 = .ok (.if_icmp .gt 18, 3) := by decide +kernel
theorem dX3_latest_37 : decode cX3_latest 37 = .ok (.aload_n 0, 1) := by decide +kernel
theorem dX3_latest_38 : decode cX3_latest 38 = .ok (.getfield 21, 3) := by decide +kernel
theorem dX3_latest_41 : decode cX3_latest 41 = .ok (.iload 5, 2) := by decide +kernel
theorem dX3_latest_43 : decode cX3_latest 43 = .ok (.iaload, 1) := by decide +kernel
theorem dX3_latest_44 : decode cX3_latest 44 = .ok (.iload_n 3, 1) := by decide +kernel
theorem dX3_latest_45 : decode cX3_latest 45 = .ok (.if_icmp .gt 7, 3) := by decide +kernel
theorem dX3_latest_48 : decode cX3_latest 48 = .ok (.iconst 1, 1) := by decide +kernel
theorem dX3_latest_49 : decode cX3_latest 49 = .ok (.goto 4, 3) := by decide +kernel
theorem dX3_latest_52 : decode cX3_latest 52 = .ok (.iconst 0, 1) := by decide +kernel
theorem dX3_latest_53 : decode cX3_latest 53 = .ok (.istore 6, 2) := by decide +kernel
theorem dX3_latest_55 : decode cX3_latest 55 = .ok (.iload 6, 2) := by decide +kernel
theorem dX3_latest_57 : decode cX3_latest 57 = .ok (.ifCond .eq 29, 3) := by decide +kernel
theorem dX3_latest_60 : decode cX3_latest 60 = .ok (.iload 4, 2) := by decide +kernel
theorem dX3_latest_62 : decode cX3_latest 62 = .ok (.ifCond .lt 20, 3) := by decide +kernel
theorem dX3_latest_65 : decode cX3_latest 65 = .ok (.aload_n 0, 1) := by decide +kernel
theorem dX3_latest_66 : decode cX3_latest 66 = .ok (.getfield 15, 3) := by decide +kernel
theorem dX3_latest_69 : decode cX3_latest 69 = .ok (.iload 5, 2) := by decide +kernel
theorem dX3_latest_71 : decode cX3_latest 71 = .ok (.iaload, 1) := by decide +kernel
theorem dX3_latest_72 : decode cX3_latest 72 = .ok (.aload_n 0, 1) := by decide +kernel
theorem dX3_latest_73 : decode cX3_latest 73 = .ok (.getfield 15, 3) := by decide +kernel
theorem dX3_latest_76 : decode cX3_latest 76 = .ok (.iload 4, 2) := by decide +kernel
theorem dX3_latest_78 : decode cX3_latest 78 = .ok (.iaload, 1) := by decide +kernel
theorem dX3_latest_79 : decode cX3_latest 79 = .ok (.if_icmp .lt 7, 3) := by decide +kernel
theorem dX3_latest_82 : decode cX3_latest 82 = .ok (.iload 5, 2) := by decide +kernel
theorem dX3_latest_84 : decode cX3_latest 84 = .ok (.istore 4, 2) := by decide +kernel
theorem dX3_latest_86 : decode cX3_latest 86 = .ok (.iinc 5 1, 3) := by decide +kernel
theorem dX3_latest_89 : decode cX3_latest 89 = .ok (.goto (-83), 3) := by decide +kernel
theorem dX3_latest_92 : decode cX3_latest 92 = .ok (.iload 4, 2) := by decide +kernel
theorem dX3_latest_94 : decode cX3_latest 94 = .ok (.ireturn, 1) := by decide +kernel
theorem dX3_copyFrom_0 : decode cX3_copyFrom 0 = .ok (.aload_n 0, 1) := by decide +kernel
theorem dX3_copyFrom_1 : decode cX3_copyFrom 1 = .ok (.aload_n 1, 1) := by decide +kernel
theorem dX3_copyFrom_2 : decode cX3_copyFrom 2 = .ok (.getfield 24, 3) := by decide +kernel
theorem dX3_copyFrom_5 : decode cX3_copyFrom 5 = .ok (.putfield 24, 3) := by decide +kernel
theorem dX3_copyFrom_8 : decode cX3_copyFrom 8 = .ok (.aload_n 1, 1) := by decide +kernel
theorem dX3_copyFrom_9 : decode cX3_copyFrom 9 = .ok (.getfield 9, 3) := by decide +kernel
theorem dX3_copyFrom_12 : decode cX3_copyFrom 12 = .ok (.iconst 0, 1) := by decide +kernel
theorem dX3_copyFrom_13 : decode cX3_copyFrom 13 = .ok (.aload_n 0, 1) := by decide +kernel
theorem dX3_copyFrom_14 : decode cX3_copyFrom 14 = .ok (.getfield 9, 3) := by decide +kernel
theorem dX3_copyFrom_17 : decode cX3_copyFrom 17 = .ok (.iconst 0, 1) := by decide +kernel
theorem dX3_copyFrom_18 : decode cX3_copyFrom 18 = .ok (.bipush 40, 2) := by decide +kernel
theorem dX3_copyFrom_20 : decode cX3_copyFrom 20 = .ok (.invokestatic 28, 3) := by decide +kernel
theorem dX3_copyFrom_23 : decode cX3_copyFrom 23 = .ok (.aload_n 1, 1) := by decide +kernel
theorem dX3_copyFrom_24 : decode cX3_copyFrom 24 = .ok (.getfield 15, 3) := by decide +kernel
theorem dX3_copyFrom_27 : decode cX3_copyFrom 27 = .ok (.iconst 0, 1) := by decide +kernel
theorem dX3_copyFrom_28 : decode cX3_copyFrom 28 = .ok (.aload_n 0, 1) := by decide +kernel
theorem dX3_copyFrom_29 : decode cX3_copyFrom 29 = .ok (.getfield 15, 3) := by decide +kernel
theorem dX3_copyFrom_32 : decode cX3_copyFrom 32 = .ok (.iconst 0, 1) := by decide +kernel
theorem dX3_copyFrom_33 : decode cX3_copyFrom 33 = .ok (.bipush 40, 2) := by decide +kernel
theorem dX3_copyFrom_35 : decode cX3_copyFrom 35 = .ok (.invokestatic 28, 3) := by decide +kernel
theorem dX3_copyFrom_38 : decode cX3_copyFrom 38 = .ok (.aload_n 1, 1) := by decide +kernel
theorem dX3_copyFrom_39 : decode cX3_copyFrom 39 = .ok (.getfield 18, 3) := by decide +kernel
theorem dX3_copyFrom_42 : decode cX3_copyFrom 42 = .ok (.iconst 0, 1) := by decide +kernel
theorem dX3_copyFrom_43 : decode cX3_copyFrom 43 = .ok (.aload_n 0, 1) := by decide +kernel
theorem dX3_copyFrom_44 : decode cX3_copyFrom 44 = .ok (.getfield 18, 3) := by decide +kernel
theorem dX3_copyFrom_47 : decode cX3_copyFrom 47 = .ok (.iconst 0, 1) := by decide +kernel
theorem dX3_copyFrom_48 : decode cX3_copyFrom 48 = .ok (.bipush 40, 2) := by decide +kernel
theorem dX3_copyFrom_50 : decode cX3_copyFrom 50 = .ok (.invokestatic 28, 3) := by decide +kernel
theorem dX3_copyFrom_53 : decode cX3_copyFrom 53 = .ok (.aload_n 1, 1) := by decide +kernel
theorem dX3_copyFrom_54 : decode cX3_copyFrom 54 = .ok (.getfield 21, 3) := by decide +kernel
theorem dX3_copyFrom_57 : decode cX3_copyFrom 57 = .ok (.iconst 0, 1) := by decide +kernel
theorem dX3_copyFrom_58 : decode cX3_copyFrom 58 = .ok (.aload_n 0, 1) := by decide +kernel
theorem dX3_copyFrom_59 : decode cX3_copyFrom 59 = .ok (.getfield 21, 3) := by decide +kernel
theorem dX3_copyFrom_62 : decode cX3_copyFrom 62 = .ok (.iconst 0, 1) := by decide +kernel
theorem dX3_copyFrom_63 : decode cX3_copyFrom 63 = .ok (.bipush 40, 2) := by decide +kernel
theorem dX3_copyFrom_65 : decode cX3_copyFrom 65 = .ok (.invokestatic 28, 3) := by decide +kernel
theorem dX3_copyFrom_68 : decode cX3_copyFrom 68 = .ok (.return_, 1) := by decide +kernel
theorem dX4_init_0 : decode cX4_init 0 = .ok (.aload_n 0, 1) := by decide +kernel
theorem dX4_init_1 : decode cX4_init 1 = .ok (.invokespecial 3, 3) := by decide +kernel
theorem dX4_init_4 : decode cX4_init 4 = .ok (.aload_n 0, 1) := by decide +kernel
theorem dX4_init_5 : decode cX4_init 5 = .ok (.bipush 24, 2) := by decide +kernel
theorem dX4_init_7 : decode cX4_init 7 = .ok (.newarray .int, 2) := by decide +kernel
theorem dX4_init_9 : decode cX4_init 9 = .ok (.putfield 9, 3) := by decide +kernel
theorem dX4_init_12 : decode cX4_init 12 = .ok (.return_, 1) := by decide +kernel
theorem dX4_isMissing_0 : decode cX4_isMissing 0 = .ok (.aload_n 0, 1) := by decide +kernel
theorem dX4_isMissing_1 : decode cX4_isMissing 1 = .ok (.getfield 15, 3) := by decide +kernel
theorem dX4_isMissing_4 : decode cX4_isMissing 4 = .ok (.ifCond .ne 7, 3) := by decide +kernel
theorem dX4_isMissing_7 : decode cX4_isMissing 7 = .ok (.iconst 1, 1) := by decide +kernel
theorem dX4_isMissing_8 : decode cX4_isMissing 8 = .ok (.goto 4, 3) := by decide +kernel
theorem dX4_isMissing_11 : decode cX4_isMissing 11 = .ok (.iconst 0, 1) := by decide +kernel
theorem dX4_isMissing_12 : decode cX4_isMissing 12 = .ok (.ireturn, 1) := by decide +kernel
theorem dX4_begin_0 : decode cX4_begin 0 = .ok (.aload_n 0, 1) := by decide +kernel
theorem dX4_begin_1 : decode cX4_begin 1 = .ok (.iload_n 1, 1) := by decide +kernel
theorem dX4_begin_2 : decode cX4_begin 2 = .ok (.putfield 15, 3) := by decide +kernel
theorem dX4_begin_5 : decode cX4_begin 5 = .ok (.aload_n 0, 1) := by decide +kernel
theorem dX4_begin_6 : decode cX4_begin 6 = .ok (.iload_n 1, 1) := by decide +kernel
theorem dX4_begin_7 : decode cX4_begin 7 = .ok (.ifCond .ne 7, 3) := by decide +kernel
theorem dX4_begin_10 : decode cX4_begin 10 = .ok (.iconst 0, 1) := by decide +kernel
theorem dX4_begin_11 : decode cX4_begin 11 = .ok (.goto 10, 3) := by decide +kernel
theorem dX4_begin_14 : decode cX4_begin 14 = .ok (.iconst 0, 1) := by decide +kernel
theorem dX4_begin_15 : decode cX4_begin 15 = .ok (.iload_n 2, 1) := by decide +kernel
theorem dX4_begin_16 : decode cX4_begin 16 = .ok (.bipush 24, 2) := by decide +kernel
theorem dX4_begin_18 : decode cX4_begin 18 = .ok (.invokestatic 19, 3) := by decide +kernel
theorem dX4_begin_21 : decode cX4_begin 21 = .ok (.putfield 23, 3) := by decide +kernel
theorem dX4_begin_24 : decode cX4_begin 24 = .ok (.iconst 0, 1) := by decide +kernel
theorem dX4_begin_25 : decode cX4_begin 25 = .ok (.istore_n 3, 1) := by decide +kernel
theorem dX4_begin_26 : decode cX4_begin 26 = .ok (.iload_n 3, 1) := by decide +kernel
theorem dX4_begin_27 : decode cX4_begin 27 = .ok (.aload_n 0, 1) := by decide +kernel
theorem dX4_begin_28 : decode cX4_begin 28 = .ok (.getfield 9, 3) := by decide +kernel
theorem dX4_begin_31 : decode cX4_begin 31 = .ok (.arraylength, 1) := by decide +kernel
theorem dX4_begin_32 : decode cX4_begin 32 = .ok (.if_icmp .ge 16, 3) := by decide +kernel
theorem dX4_begin_35 : decode cX4_begin 35 = .ok (.aload_n 0, 1) := by decide +kernel
theorem dX4_begin_36 : decode cX4_begin 36 = .ok (.getfield 9, 3) := by decide +kernel
theorem dX4_begin_39 : decode cX4_begin 39 = .ok (.iload_n 3, 1) := by decide +kernel
theorem dX4_begin_40 : decode cX4_begin 40 = .ok (.iconst 0, 1) := by decide +kernel
theorem dX4_begin_41 : decode cX4_begin 41 = .ok (.iastore, 1) := by decide +kernel
theorem dX4_begin_42 : decode cX4_begin 42 = .ok (.iinc 3 1, 3) := by decide +kernel
theorem dX4_begin_45 : decode cX4_begin 45 = .ok (.goto (-19), 3) := by decide +kernel
theorem dX4_begin_48 : decode cX4_begin 48 = .ok (.return_, 1) := by decide +kernel
theorem dX4_write_0 : decode cX4_write 0 = .ok (.iload_n 1, 1) := by decide +kernel
theorem dX4_write_1 : decode cX4_write 1 = .ok (.ifCond .lt 22, 3) := by decide +kernel
theorem dX4_write_4 : decode cX4_write 4 = .ok (.iload_n 1, 1) := by decide +kernel
theorem dX4_write_5 : decode cX4_write 5 = .ok (.aload_n 0, 1) := by decide +kernel
theorem dX4_write_6 : decode cX4_write 6 = .ok (.getfield 23, 3) := by decide +kernel
theorem dX4_write_9 : decode cX4_write 9 = .ok (.if_icmp .ge 14, 3) := by decide +kernel
theorem dX4_write_12 : decode cX4_write 12 = .ok (.aload_n 0, 1) := by decide +kernel
theorem dX4_write_13 : decode cX4_write 13 = .ok (.getfield 9, 3) := by decide +kernel
theorem dX4_write_16 : decode cX4_write 16 = .ok (.iload_n 1, 1) := by decide +kernel
theorem dX4_write_17 : decode cX4_write 17 = .ok (.aload_n 0, 1) := by decide +kernel
theorem dX4_write_18 : decode cX4_write 18 = .ok (.iload_n 2, 1) := by decide +kernel
theorem dX4_write_19 : decode cX4_write 19 = .ok (.invokevirtual 26, 3) := by decide +kernel
theorem dX4_write_22 : decode cX4_write 22 = .ok (.iastore, 1) := by decide +kernel
theorem dX4_write_23 : decode cX4_write 23 = .ok (.return_, 1) := by decide +kernel
theorem dX4_lowest_0 : decode cX4_lowest 0 = .ok (.aload_n 0, 1) := by decide +kernel
theorem dX4_lowest_1 : decode cX4_lowest 1 = .ok (.getfield 15, 3) := by decide +kernel
theorem dX4_lowest_4 : decode cX4_lowest 4 = .ok (.lookupswitch 34 #[(8, 28), (16, 31)], 28) := by decide +kernel
theorem dX4_lowest_32 : decode cX4_lowest 32 = .ok (.iload_n 1, 1) := by decide +kernel
theorem dX4_lowest_33 : decode cX4_lowest 33 = .ok (.i2b, 1) := by decide +kernel
theorem dX4_lowest_34 : decode cX4_lowest 34 = .ok (.ireturn, 1) := by decide +kernel
theorem dX4_lowest_35 : decode cX4_lowest 35 = .ok (.iload_n 1, 1) := by decide +kernel
theorem dX4_lowest_36 : decode cX4_lowest 36 = .ok (.i2s, 1) := by decide +kernel
theorem dX4_lowest_37 : decode cX4_lowest 37 = .ok (.ireturn, 1) := by decide +kernel
theorem dX4_lowest_38 : decode cX4_lowest 38 = .ok (.iload_n 1, 1) := by decide +kernel
theorem dX4_lowest_39 : decode cX4_lowest 39 = .ok (.ireturn, 1) := by decide +kernel
theorem dX4_numberAt_0 : decode cX4_numberAt 0 = .ok (.iload_n 1, 1) := by decide +kernel
theorem dX4_numberAt_1 : decode cX4_numberAt 1 = .ok (.ifCond .lt 20, 3) := by decide +kernel
theorem dX4_numberAt_4 : decode cX4_numberAt 4 = .ok (.iload_n 1, 1) := by decide +kernel
theorem dX4_numberAt_5 : decode cX4_numberAt 5 = .ok (.aload_n 0, 1) := by decide +kernel
theorem dX4_numberAt_6 : decode cX4_numberAt 6 = .ok (.getfield 23, 3) := by decide +kernel
theorem dX4_numberAt_9 : decode cX4_numberAt 9 = .ok (.if_icmp .ge 12, 3) := by decide +kernel
theorem dX4_numberAt_12 : decode cX4_numberAt 12 = .ok (.aload_n 0, 1) := by decide +kernel
theorem dX4_numberAt_13 : decode cX4_numberAt 13 = .ok (.getfield 9, 3) := by decide +kernel
theorem dX4_numberAt_16 : decode cX4_numberAt 16 = .ok (.iload_n 1, 1) := by decide +kernel
theorem dX4_numberAt_17 : decode cX4_numberAt 17 = .ok (.iaload, 1) := by decide +kernel
theorem dX4_numberAt_18 : decode cX4_numberAt 18 = .ok (.goto 4, 3) := by decide +kernel
theorem dX4_numberAt_21 : decode cX4_numberAt 21 = .ok (.iconst 0, 1) := by decide +kernel
theorem dX4_numberAt_22 : decode cX4_numberAt 22 = .ok (.ireturn, 1) := by decide +kernel
theorem dX4_holds_0 : decode cX4_holds 0 = .ok (.iload_n 1, 1) := by decide +kernel
theorem dX4_holds_1 : decode cX4_holds 1 = .ok (.ifCond .lt 29, 3) := by decide +kernel
theorem dX4_holds_4 : decode cX4_holds 4 = .ok (.iload_n 2, 1) := by decide +kernel
theorem dX4_holds_5 : decode cX4_holds 5 = .ok (.ifCond .lt 25, 3) := by decide +kernel
theorem dX4_holds_8 : decode cX4_holds 8 = .ok (.iload_n 1, 1) := by decide +kernel
theorem dX4_holds_9 : decode cX4_holds 9 = .ok (.aload_n 0, 1) := by decide +kernel
theorem dX4_holds_10 : decode cX4_holds 10 = .ok (.getfield 23, 3) := by decide +kernel
theorem dX4_holds_13 : decode cX4_holds 13 = .ok (.if_icmp .gt 17, 3) := by decide +kernel
theorem dX4_holds_16 : decode cX4_holds 16 = .ok (.iload_n 2, 1) := by decide +kernel
theorem dX4_holds_17 : decode cX4_holds 17 = .ok (.aload_n 0, 1) := by decide +kernel
theorem dX4_holds_18 : decode cX4_holds 18 = .ok (.getfield 23, 3) := by decide +kernel
theorem dX4_holds_21 : decode cX4_holds 21 = .ok (.iload_n 1, 1) := by decide +kernel
theorem dX4_holds_22 : decode cX4_holds 22 = .ok (.isub, 1) := by decide +kernel
theorem dX4_holds_23 : decode cX4_holds 23 = .ok (.if_icmp .gt 7, 3) := by decide +kernel
theorem dX4_holds_26 : decode cX4_holds 26 = .ok (.iconst 1, 1) := by decide +kernel
theorem dX4_holds_27 : decode cX4_holds 27 = .ok (.goto 4, 3) := by decide +kernel
theorem dX4_holds_30 : decode cX4_holds 30 = .ok (.iconst 0, 1) := by decide +kernel
theorem dX4_holds_31 : decode cX4_holds 31 = .ok (.ireturn, 1) := by decide +kernel
theorem dX5_init_0 : decode cX5_init 0 = .ok (.aload_n 0, 1) := by decide +kernel
theorem dX5_init_1 : decode cX5_init 1 = .ok (.invokespecial 3, 3) := by decide +kernel
theorem dX5_init_4 : decode cX5_init 4 = .ok (.aload_n 0, 1) := by decide +kernel
theorem dX5_init_5 : decode cX5_init 5 = .ok (.bipush 8, 2) := by decide +kernel
theorem dX5_init_7 : decode cX5_init 7 = .ok (.newarray .int, 2) := by decide +kernel
theorem dX5_init_9 : decode cX5_init 9 = .ok (.putfield 9, 3) := by decide +kernel
theorem dX5_init_12 : decode cX5_init 12 = .ok (.aload_n 0, 1) := by decide +kernel
theorem dX5_init_13 : decode cX5_init 13 = .ok (.bipush 8, 2) := by decide +kernel
theorem dX5_init_15 : decode cX5_init 15 = .ok (.newarray .int, 2) := by decide +kernel
theorem dX5_init_17 : decode cX5_init 17 = .ok (.putfield 15, 3) := by decide +kernel
theorem dX5_init_20 : decode cX5_init 20 = .ok (.aload_n 0, 1) := by decide +kernel
theorem dX5_init_21 : decode cX5_init 21 = .ok (.bipush 8, 2) := by decide +kernel
theorem dX5_init_23 : decode cX5_init 23 = .ok (.newarray .int, 2) := by decide +kernel
theorem dX5_init_25 : decode cX5_init 25 = .ok (.putfield 18, 3) := by decide +kernel
theorem dX5_init_28 : decode cX5_init 28 = .ok (.aload_n 0, 1) := by decide +kernel
theorem dX5_init_29 : decode cX5_init 29 = .ok (.bipush 8, 2) := by decide +kernel
