theorem dX0_init_0 : decode cX0_init 0 = .ok (.aload_n 0, 1) := by decide +kernel
theorem dX0_init_1 : decode cX0_init 1 = .ok (.invokespecial 3, 3) := by decide +kernel
theorem dX0_init_4 : decode cX0_init 4 = .ok (.aload_n 0, 1) := by decide +kernel
theorem dX0_init_5 : decode cX0_init 5 = .ok (.new 9, 3) := by decide +kernel
theorem dX0_init_8 : decode cX0_init 8 = .ok (.dup, 1) := by decide +kernel
theorem dX0_init_9 : decode cX0_init 9 = .ok (.bipush 60, 2) := by decide +kernel
theorem dX0_init_11 : decode cX0_init 11 = .ok (.invokespecial 11, 3) := by decide +kernel
theorem dX0_init_14 : decode cX0_init 14 = .ok (.putfield 14, 3) := by decide +kernel
theorem dX0_init_17 : decode cX0_init 17 = .ok (.aload_n 0, 1) := by decide +kernel
theorem dX0_init_18 : decode cX0_init 18 = .ok (.bipush 60, 2) := by decide +kernel
theorem dX0_init_20 : decode cX0_init 20 = .ok (.newarray .boolean, 2) := by decide +kernel
theorem dX0_init_22 : decode cX0_init 22 = .ok (.putfield 20, 3) := by decide +kernel
theorem dX0_init_25 : decode cX0_init 25 = .ok (.return_, 1) := by decide +kernel
theorem dX0_readFrom_0 : decode cX0_readFrom 0 = .ok (.aload_n 0, 1) := by decide +kernel
theorem dX0_readFrom_1 : decode cX0_readFrom 1 = .ok (.getfield 14, 3) := by decide +kernel
theorem dX0_readFrom_4 : decode cX0_readFrom 4 = .ok (.invokevirtual 24, 3) := by decide +kernel
theorem dX0_readFrom_7 : decode cX0_readFrom 7 = .ok (.iconst 0, 1) := by decide +kernel
theorem dX0_readFrom_8 : decode cX0_readFrom 8 = .ok (.istore_n 2, 1) := by decide +kernel
theorem dX0_readFrom_9 : decode cX0_readFrom 9 = .ok (.iload_n 2, 1) := by decide +kernel
theorem dX0_readFrom_10 : decode cX0_readFrom 10 = .ok (.aload_n 0, 1) := by decide +kernel
theorem dX0_readFrom_11 : decode cX0_readFrom 11 = .ok (.getfield 20, 3) := by decide +kernel
theorem dX0_readFrom_14 : decode cX0_readFrom 14 = .ok (.arraylength, 1) := by decide +kernel
theorem dX0_readFrom_15 : decode cX0_readFrom 15 = .ok (.if_icmp .ge 16, 3) := by decide +kernel
theorem dX0_readFrom_18 : decode cX0_readFrom 18 = .ok (.aload_n 0, 1) := by decide +kernel
theorem dX0_readFrom_19 : decode cX0_readFrom 19 = .ok (.getfield 20, 3) := by decide +kernel
theorem dX0_readFrom_22 : decode cX0_readFrom 22 = .ok (.iload_n 2, 1) := by decide +kernel
theorem dX0_readFrom_23 : decode cX0_readFrom 23 = .ok (.iconst 0, 1) := by decide +kernel
theorem dX0_readFrom_24 : decode cX0_readFrom 24 = .ok (.bastore, 1) := by decide +kernel
theorem dX0_readFrom_25 : decode cX0_readFrom 25 = .ok (.iinc 2 1, 3) := by decide +kernel
theorem dX0_readFrom_28 : decode cX0_readFrom 28 = .ok (.goto (-19), 3) := by decide +kernel
theorem dX0_readFrom_31 : decode cX0_readFrom 31 = .ok (.aload_n 0, 1) := by decide +kernel
theorem dX0_readFrom_32 : decode cX0_readFrom 32 = .ok (.iconst 0, 1) := by decide +kernel
theorem dX0_readFrom_33 : decode cX0_readFrom 33 = .ok (.putfield 27, 3) := by decide +kernel
theorem dX0_readFrom_36 : decode cX0_readFrom 36 = .ok (.iconst 0, 1) := by decide +kernel
theorem dX0_readFrom_37 : decode cX0_readFrom 37 = .ok (.istore_n 2, 1) := by decide +kernel
theorem dX0_readFrom_38 : decode cX0_readFrom 38 = .ok (.iload_n 2, 1) := by decide +kernel
theorem dX0_readFrom_39 : decode cX0_readFrom 39 = .ok (.aload_n 1, 1) := by decide +kernel
theorem dX0_readFrom_40 : decode cX0_readFrom 40 = .ok (.getfield 31, 3) := by decide +kernel
theorem dX0_readFrom_43 : decode cX0_readFrom 43 = .ok (.if_icmp .ge 37, 3) := by decide +kernel
theorem dX0_readFrom_46 : decode cX0_readFrom 46 = .ok (.aload_n 1, 1) := by decide +kernel
theorem dX0_readFrom_47 : decode cX0_readFrom 47 = .ok (.iload_n 2, 1) := by decide +kernel
theorem dX0_readFrom_48 : decode cX0_readFrom 48 = .ok (.invokestatic 34, 3) := by decide +kernel
theorem dX0_readFrom_51 : decode cX0_readFrom 51 = .ok (.istore_n 3, 1) := by decide +kernel
theorem dX0_readFrom_52 : decode cX0_readFrom 52 = .ok (.iload_n 3, 1) := by decide +kernel
theorem dX0_readFrom_53 : decode cX0_readFrom 53 = .ok (.ifCond .le 11, 3) := by decide +kernel
theorem dX0_readFrom_56 : decode cX0_readFrom 56 = .ok (.iload_n 2, 1) := by decide +kernel
theorem dX0_readFrom_57 : decode cX0_readFrom 57 = .ok (.iload_n 3, 1) := by decide +kernel
theorem dX0_readFrom_58 : decode cX0_readFrom 58 = .ok (.iadd, 1) := by decide +kernel
theorem dX0_readFrom_59 : decode cX0_readFrom 59 = .ok (.bipush 60, 2) := by decide +kernel
theorem dX0_readFrom_61 : decode cX0_readFrom 61 = .ok (.if_icmp .le 5, 3) := by decide +kernel
theorem dX0_readFrom_64 : decode cX0_readFrom 64 = .ok (.iload_n 2, 1) := by decide +kernel
theorem dX0_readFrom_65 : decode cX0_readFrom 65 = .ok (.ireturn, 1) := by decide +kernel
theorem dX0_readFrom_66 : decode cX0_readFrom 66 = .ok (.aload_n 0, 1) := by decide +kernel
theorem dX0_readFrom_67 : decode cX0_readFrom 67 = .ok (.aload_n 1, 1) := by decide +kernel
theorem dX0_readFrom_68 : decode cX0_readFrom 68 = .ok (.iload_n 2, 1) := by decide +kernel
theorem dX0_readFrom_69 : decode cX0_readFrom 69 = .ok (.iload_n 3, 1) := by decide +kernel
theorem dX0_readFrom_70 : decode cX0_readFrom 70 = .ok (.invokevirtual 38, 3) := by decide +kernel
theorem dX0_readFrom_73 : decode cX0_readFrom 73 = .ok (.iload_n 2, 1) := by decide +kernel
theorem dX0_readFrom_74 : decode cX0_readFrom 74 = .ok (.iload_n 3, 1) := by decide +kernel
theorem dX0_readFrom_75 : decode cX0_readFrom 75 = .ok (.iadd, 1) := by decide +kernel
theorem dX0_readFrom_76 : decode cX0_readFrom 76 = .ok (.istore_n 2, 1) := by decide +kernel
theorem dX0_readFrom_77 : decode cX0_readFrom 77 = .ok (.goto (-39), 3) := by decide +kernel
theorem dX0_readFrom_80 : decode cX0_readFrom 80 = .ok (.aload_n 0, 1) := by decide +kernel
theorem dX0_readFrom_81 : decode cX0_readFrom 81 = .ok (.invokevirtual 42, 3) := by decide +kernel
theorem dX0_readFrom_84 : decode cX0_readFrom 84 = .ok (.ireturn, 1) := by decide +kernel
theorem dX0_take_0 : decode cX0_take 0 = .ok (.iload_n 2, 1) := by decide +kernel
theorem dX0_take_1 : decode cX0_take 1 = .ok (.ifCond .lt 19, 3) := by decide +kernel
theorem dX0_take_4 : decode cX0_take 4 = .ok (.iload_n 2, 1) := by decide +kernel
theorem dX0_take_5 : decode cX0_take 5 = .ok (.aload_n 0, 1) := by decide +kernel
theorem dX0_take_6 : decode cX0_take 6 = .ok (.getfield 20, 3) := by decide +kernel
theorem dX0_take_9 : decode cX0_take 9 = .ok (.arraylength, 1) := by decide +kernel
theorem dX0_take_10 : decode cX0_take 10 = .ok (.if_icmp .ge 10, 3) := by decide +kernel
theorem dX0_take_13 : decode cX0_take 13 = .ok (.aload_n 0, 1) := by decide +kernel
theorem dX0_take_14 : decode cX0_take 14 = .ok (.getfield 20, 3) := by decide +kernel
theorem dX0_take_17 : decode cX0_take 17 = .ok (.iload_n 2, 1) := by decide +kernel
theorem dX0_take_18 : decode cX0_take 18 = .ok (.iconst 1, 1) := by decide +kernel
theorem dX0_take_19 : decode cX0_take 19 = .ok (.bastore, 1) := by decide +kernel
theorem dX0_take_20 : decode cX0_take 20 = .ok (.iconst 0, 1) := by decide +kernel
theorem dX0_take_21 : decode cX0_take 21 = .ok (.istore 4, 2) := by decide +kernel
theorem dX0_take_23 : decode cX0_take 23 = .ok (.iload 4, 2) := by decide +kernel
theorem dX0_take_25 : decode cX0_take 25 = .ok (.iload_n 3, 1) := by decide +kernel
theorem dX0_take_26 : decode cX0_take 26 = .ok (.if_icmp .ge 25, 3) := by decide +kernel
theorem dX0_take_29 : decode cX0_take 29 = .ok (.aload_n 0, 1) := by decide +kernel
theorem dX0_take_30 : decode cX0_take 30 = .ok (.getfield 14, 3) := by decide +kernel
theorem dX0_take_33 : decode cX0_take 33 = .ok (.aload_n 1, 1) := by decide +kernel
theorem dX0_take_34 : decode cX0_take 34 = .ok (.iload_n 2, 1) := by decide +kernel
theorem dX0_take_35 : decode cX0_take 35 = .ok (.iload 4, 2) := by decide +kernel
theorem dX0_take_37 : decode cX0_take 37 = .ok (.iadd, 1) := by decide +kernel
theorem dX0_take_38 : decode cX0_take 38 = .ok (.invokevirtual 46, 3) := by decide +kernel
theorem dX0_take_41 : decode cX0_take 41 = .ok (.invokevirtual 50, 3) := by decide +kernel
theorem dX0_take_44 : decode cX0_take 44 = .ok (.pop, 1) := by decide +kernel
theorem dX0_take_45 : decode cX0_take 45 = .ok (.iinc 4 1, 3) := by decide +kernel
theorem dX0_take_48 : decode cX0_take 48 = .ok (.goto (-25), 3) := by decide +kernel
theorem dX0_take_51 : decode cX0_take 51 = .ok (.aload_n 0, 1) := by decide +kernel
theorem dX0_take_52 : decode cX0_take 52 = .ok (.dup, 1) := by decide +kernel
theorem dX0_take_53 : decode cX0_take 53 = .ok (.getfield 27, 3) := by decide +kernel
theorem dX0_take_56 : decode cX0_take 56 = .ok (.iconst 1, 1) := by decide +kernel
theorem dX0_take_57 : decode cX0_take 57 = .ok (.iadd, 1) := by decide +kernel
theorem dX0_take_58 : decode cX0_take 58 = .ok (.putfield 27, 3) := by decide +kernel
theorem dX0_take_61 : decode cX0_take 61 = .ok (.return_, 1) := by decide +kernel
theorem dX0_firstAstray_0 : decode cX0_firstAstray 0 = .ok (.iconst 0, 1) := by decide +kernel
theorem dX0_firstAstray_1 : decode cX0_firstAstray 1 = .ok (.istore_n 1, 1) := by decide +kernel
theorem dX0_firstAstray_2 : decode cX0_firstAstray 2 = .ok (.iload_n 1, 1) := by decide +kernel
theorem dX0_firstAstray_3 : decode cX0_firstAstray 3 = .ok (.aload_n 0, 1) := by decide +kernel
theorem dX0_firstAstray_4 : decode cX0_firstAstray 4 = .ok (.getfield 14, 3) := by decide +kernel
theorem dX0_firstAstray_7 : decode cX0_firstAstray 7 = .ok (.getfield 31, 3) := by decide +kernel
theorem dX0_firstAstray_10 : decode cX0_firstAstray 10 = .ok (.if_icmp .ge 53, 3) := by decide +kernel
theorem dX0_firstAstray_13 : decode cX0_firstAstray 13 = .ok (.aload_n 0, 1) := by decide +kernel
theorem dX0_firstAstray_14 : decode cX0_firstAstray 14 = .ok (.iload_n 1, 1) := by decide +kernel
theorem dX0_firstAstray_15 : decode cX0_firstAstray 15 = .ok (.invokevirtual 54, 3) := by decide +kernel
theorem dX0_firstAstray_18 : decode cX0_firstAstray 18 = .ok (.ifCond .eq 19, 3) := by decide +kernel
theorem dX0_firstAstray_21 : decode cX0_firstAstray 21 = .ok (.aload_n 0, 1) := by decide +kernel
theorem dX0_firstAstray_22 : decode cX0_firstAstray 22 = .ok (.iload_n 1, 1) := by decide +kernel
theorem dX0_firstAstray_23 : decode cX0_firstAstray 23 = .ok (.invokevirtual 58, 3) := by decide +kernel
theorem dX0_firstAstray_26 : decode cX0_firstAstray 26 = .ok (.invokestatic 61, 3) := by decide +kernel
theorem dX0_firstAstray_29 : decode cX0_firstAstray 29 = .ok (.iconst 3, 1) := by decide +kernel
theorem dX0_firstAstray_30 : decode cX0_firstAstray 30 = .ok (.if_icmp .ne 7, 3) := by decide +kernel
theorem dX0_firstAstray_33 : decode cX0_firstAstray 33 = .ok (.iconst 1, 1) := by decide +kernel
theorem dX0_firstAstray_34 : decode cX0_firstAstray 34 = .ok (.goto 4, 3) := by decide +kernel
theorem dX0_firstAstray_37 : decode cX0_firstAstray 37 = .ok (.iconst 0, 1) := by decide +kernel
theorem dX0_firstAstray_38 : decode cX0_firstAstray 38 = .ok (.istore_n 2, 1) := by decide +kernel
theorem dX0_firstAstray_39 : decode cX0_firstAstray 39 = .ok (.iload_n 2, 1) := by decide +kernel
theorem dX0_firstAstray_40 : decode cX0_firstAstray 40 = .ok (.ifCond .eq 17, 3) := by decide +kernel
theorem dX0_firstAstray_43 : decode cX0_firstAstray 43 = .ok (.aload_n 0, 1) := by decide +kernel
theorem dX0_firstAstray_44 : decode cX0_firstAstray 44 = .ok (.aload_n 0, 1) := by decide +kernel
theorem dX0_firstAstray_45 : decode cX0_firstAstray 45 = .ok (.iload_n 1, 1) := by decide +kernel
theorem dX0_firstAstray_46 : decode cX0_firstAstray 46 = .ok (.invokevirtual 65, 3) := by decide +kernel
theorem dX0_firstAstray_49 : decode cX0_firstAstray 49 = .ok (.invokevirtual 54, 3) := by decide +kernel
theorem dX0_firstAstray_52 : decode cX0_firstAstray 52 = .ok (.ifCond .ne 5, 3) := by decide +kernel
theorem dX0_firstAstray_55 : decode cX0_firstAstray 55 = .ok (.iload_n 1, 1) := by decide +kernel
theorem dX0_firstAstray_56 : decode cX0_firstAstray 56 = .ok (.ireturn, 1) := by decide +kernel
theorem dX0_firstAstray_57 : decode cX0_firstAstray 57 = .ok (.iinc 1 1, 3) := by decide +kernel
theorem dX0_firstAstray_60 : decode cX0_firstAstray 60 = .ok (.goto (-58), 3) := by decide +kernel
theorem dX0_firstAstray_63 : decode cX0_firstAstray 63 = .ok (.bipush (-4), 2) := by decide +kernel
theorem dX0_firstAstray_65 : decode cX0_firstAstray 65 = .ok (.ireturn, 1) := by decide +kernel
theorem dX0_widthAt_0 : decode cX0_widthAt 0 = .ok (.aload_n 0, 1) := by decide +kernel
theorem dX0_widthAt_1 : decode cX0_widthAt 1 = .ok (.iload_n 1, 1) := by decide +kernel
theorem dX0_widthAt_2 : decode cX0_widthAt 2 = .ok (.invokevirtual 46, 3) := by decide +kernel
theorem dX0_widthAt_5 : decode cX0_widthAt 5 = .ok (.invokestatic 61, 3) := by decide +kernel
theorem dX0_widthAt_8 : decode cX0_widthAt 8 = .ok (.istore_n 2, 1) := by decide +kernel
theorem dX0_widthAt_9 : decode cX0_widthAt 9 = .ok (.iload_n 2, 1) := by decide +kernel
theorem dX0_widthAt_10 : decode cX0_widthAt 10 = .ok (.iconst 2, 1) := by decide +kernel
theorem dX0_widthAt_11 : decode cX0_widthAt 11 = .ok (.if_icmp .ne 25, 3) := by decide +kernel
theorem dX0_widthAt_14 : decode cX0_widthAt 14 = .ok (.aload_n 0, 1) := by decide +kernel
theorem dX0_widthAt_15 : decode cX0_widthAt 15 = .ok (.iload_n 1, 1) := by decide +kernel
theorem dX0_widthAt_16 : decode cX0_widthAt 16 = .ok (.iconst 1, 1) := by decide +kernel
theorem dX0_widthAt_17 : decode cX0_widthAt 17 = .ok (.iadd, 1) := by decide +kernel
theorem dX0_widthAt_18 : decode cX0_widthAt 18 = .ok (.invokevirtual 69, 3) := by decide +kernel
theorem dX0_widthAt_21 : decode cX0_widthAt 21 = .ok (.iconst 0, 1) := by decide +kernel
theorem dX0_widthAt_22 : decode cX0_widthAt 22 = .ok (.bipush 7, 2) := by decide +kernel
theorem dX0_widthAt_24 : decode cX0_widthAt 24 = .ok (.invokestatic 72, 3) := by decide +kernel
theorem dX0_widthAt_27 : decode cX0_widthAt 27 = .ok (.ifCond .eq 7, 3) := by decide +kernel
theorem dX0_widthAt_30 : decode cX0_widthAt 30 = .ok (.iconst 2, 1) := by decide +kernel
theorem dX0_widthAt_31 : decode cX0_widthAt 31 = .ok (.goto 4, 3) := by decide +kernel
theorem dX0_widthAt_34 : decode cX0_widthAt 34 = .ok (.iconst 0, 1) := by decide +kernel
theorem dX0_widthAt_35 : decode cX0_widthAt 35 = .ok (.ireturn, 1) := by decide +kernel
theorem dX0_widthAt_36 : decode cX0_widthAt 36 = .ok (.iload_n 2, 1) := by decide +kernel
theorem dX0_widthAt_37 : decode cX0_widthAt 37 = .ok (.iconst 3, 1) := by decide +kernel
theorem dX0_widthAt_38 : decode cX0_widthAt 38 = .ok (.if_icmp .ne 43, 3) := by decide +kernel
theorem dX0_widthAt_41 : decode cX0_widthAt 41 = .ok (.aload_n 0, 1) := by decide +kernel
theorem dX0_widthAt_42 : decode cX0_widthAt 42 = .ok (.iload_n 1, 1) := by decide +kernel
theorem dX0_widthAt_43 : decode cX0_widthAt 43 = .ok (.iconst 1, 1) := by decide +kernel
theorem dX0_widthAt_44 : decode cX0_widthAt 44 = .ok (.iadd, 1) := by decide +kernel
theorem dX0_widthAt_45 : decode cX0_widthAt 45 = .ok (.invokevirtual 69, 3) := by decide +kernel
theorem dX0_widthAt_48 : decode cX0_widthAt 48 = .ok (.bipush (-4), 2) := by decide +kernel
theorem dX0_widthAt_50 : decode cX0_widthAt 50 = .ok (.if_icmp .eq 19, 3) := by decide +kernel
theorem dX0_widthAt_53 : decode cX0_widthAt 53 = .ok (.aload_n 0, 1) := by decide +kernel
theorem dX0_widthAt_54 : decode cX0_widthAt 54 = .ok (.iload_n 1, 1) := by decide +kernel
theorem dX0_widthAt_55 : decode cX0_widthAt 55 = .ok (.iconst 2, 1) := by decide +kernel
theorem dX0_widthAt_56 : decode cX0_widthAt 56 = .ok (.iadd, 1) := by decide +kernel
theorem dX0_widthAt_57 : decode cX0_widthAt 57 = .ok (.invokevirtual 69, 3) := by decide +kernel
theorem dX0_widthAt_60 : decode cX0_widthAt 60 = .ok (.bipush (-4), 2) := by decide +kernel
theorem dX0_widthAt_62 : decode cX0_widthAt 62 = .ok (.if_icmp .eq 7, 3) := by decide +kernel
theorem dX0_widthAt_65 : decode cX0_widthAt 65 = .ok (.iconst 1, 1) := by decide +kernel
theorem dX0_widthAt_66 : decode cX0_widthAt 66 = .ok (.goto 4, 3) := by decide +kernel
theorem dX0_widthAt_69 : decode cX0_widthAt 69 = .ok (.iconst 0, 1) := by decide +kernel
theorem dX0_widthAt_70 : decode cX0_widthAt 70 = .ok (.istore_n 3, 1) := by decide +kernel
theorem dX0_widthAt_71 : decode cX0_widthAt 71 = .ok (.iload_n 3, 1) := by decide +kernel
theorem dX0_widthAt_72 : decode cX0_widthAt 72 = .ok (.ifCond .eq 7, 3) := by decide +kernel
theorem dX0_widthAt_75 : decode cX0_widthAt 75 = .ok (.iconst 3, 1) := by decide +kernel
theorem dX0_widthAt_76 : decode cX0_widthAt 76 = .ok (.goto 4, 3) := by decide +kernel
theorem dX0_widthAt_79 : decode cX0_widthAt 79 = .ok (.iconst 0, 1) := by decide +kernel
theorem dX0_widthAt_80 : decode cX0_widthAt 80 = .ok (.ireturn, 1) := by decide +kernel
theorem dX0_widthAt_81 : decode cX0_widthAt 81 = .ok (.iload_n 2, 1) := by decide +kernel
theorem dX0_widthAt_82 : decode cX0_widthAt 82 = .ok (.ireturn, 1) := by decide +kernel
theorem dX0_has_0 : decode cX0_has 0 = .ok (.iload_n 1, 1) := by decide +kernel
theorem dX0_has_1 : decode cX0_has 1 = .ok (.ifCond .lt 18, 3) := by decide +kernel
theorem dX0_has_4 : decode cX0_has 4 = .ok (.iload_n 1, 1) := by decide +kernel
theorem dX0_has_5 : decode cX0_has 5 = .ok (.aload_n 0, 1) := by decide +kernel
theorem dX0_has_6 : decode cX0_has 6 = .ok (.getfield 14, 3) := by decide +kernel
theorem dX0_has_9 : decode cX0_has 9 = .ok (.getfield 31, 3) := by decide +kernel
theorem dX0_has_12 : decode cX0_has 12 = .ok (.if_icmp .ge 7, 3) := by decide +kernel
theorem dX0_has_15 : decode cX0_has 15 = .ok (.iconst 1, 1) := by decide +kernel
theorem dX0_has_16 : decode cX0_has 16 = .ok (.goto 4, 3) := by decide +kernel
theorem dX0_has_19 : decode cX0_has 19 = .ok (.iconst 0, 1) := by decide +kernel
theorem dX0_has_20 : decode cX0_has 20 = .ok (.ireturn, 1) := by decide +kernel
theorem dX0_beginsAt_0 : decode cX0_beginsAt 0 = .ok (.aload_n 0, 1) := by decide +kernel
theorem dX0_beginsAt_1 : decode cX0_beginsAt 1 = .ok (.iload_n 1, 1) := by decide +kernel
theorem dX0_beginsAt_2 : decode cX0_beginsAt 2 = .ok (.invokevirtual 76, 3) := by decide +kernel
theorem dX0_beginsAt_5 : decode cX0_beginsAt 5 = .ok (.ifCond .eq 25, 3) := by decide +kernel
theorem dX0_beginsAt_8 : decode cX0_beginsAt 8 = .ok (.iload_n 1, 1) := by decide +kernel
theorem dX0_beginsAt_9 : decode cX0_beginsAt 9 = .ok (.aload_n 0, 1) := by decide +kernel
theorem dX0_beginsAt_10 : decode cX0_beginsAt 10 = .ok (.getfield 20, 3) := by decide +kernel
theorem dX0_beginsAt_13 : decode cX0_beginsAt 13 = .ok (.arraylength, 1) := by decide +kernel
theorem dX0_beginsAt_14 : decode cX0_beginsAt 14 = .ok (.if_icmp .ge 16, 3) := by decide +kernel
theorem dX0_beginsAt_17 : decode cX0_beginsAt 17 = .ok (.aload_n 0, 1) := by decide +kernel
theorem dX0_beginsAt_18 : decode cX0_beginsAt 18 = .ok (.getfield 20, 3) := by decide +kernel
theorem dX0_beginsAt_21 : decode cX0_beginsAt 21 = .ok (.iload_n 1, 1) := by decide +kernel
theorem dX0_beginsAt_22 : decode cX0_beginsAt 22 = .ok (.baload, 1) := by decide +kernel
theorem dX0_beginsAt_23 : decode cX0_beginsAt 23 = .ok (.ifCond .eq 7, 3) := by decide +kernel
theorem dX0_beginsAt_26 : decode cX0_beginsAt 26 = .ok (.iconst 1, 1) := by decide +kernel
theorem dX0_beginsAt_27 : decode cX0_beginsAt 27 = .ok (.goto 4, 3) := by decide +kernel
theorem dX0_beginsAt_30 : decode cX0_beginsAt 30 = .ok (.iconst 0, 1) := by decide +kernel
theorem dX0_beginsAt_31 : decode cX0_beginsAt 31 = .ok (.ireturn, 1) := by decide +kernel
theorem dX0_letterAt_0 : decode cX0_letterAt 0 = .ok (.aload_n 0, 1) := by decide +kernel
theorem dX0_letterAt_1 : decode cX0_letterAt 1 = .ok (.getfield 14, 3) := by decide +kernel
theorem dX0_letterAt_4 : decode cX0_letterAt 4 = .ok (.iload_n 1, 1) := by decide +kernel
theorem dX0_letterAt_5 : decode cX0_letterAt 5 = .ok (.invokevirtual 46, 3) := by decide +kernel
theorem dX0_letterAt_8 : decode cX0_letterAt 8 = .ok (.ireturn, 1) := by decide +kernel
theorem dX0_numberAt_0 : decode cX0_numberAt 0 = .ok (.aload_n 0, 1) := by decide +kernel
theorem dX0_numberAt_1 : decode cX0_numberAt 1 = .ok (.iload_n 1, 1) := by decide +kernel
theorem dX0_numberAt_2 : decode cX0_numberAt 2 = .ok (.invokevirtual 58, 3) := by decide +kernel
theorem dX0_numberAt_5 : decode cX0_numberAt 5 = .ok (.invokestatic 61, 3) := by decide +kernel
theorem dX0_numberAt_8 : decode cX0_numberAt 8 = .ok (.lookupswitch 64 #[(2, 28), (3, 39)], 28) := by decide +kernel
theorem dX0_numberAt_36 : decode cX0_numberAt 36 = .ok (.aload_n 0, 1) := by decide +kernel
theorem dX0_numberAt_37 : decode cX0_numberAt 37 = .ok (.getfield 14, 3) := by decide +kernel
theorem dX0_numberAt_40 : decode cX0_numberAt 40 = .ok (.iload_n 1, 1) := by decide +kernel
theorem dX0_numberAt_41 : decode cX0_numberAt 41 = .ok (.iconst 1, 1) := by decide +kernel
theorem dX0_numberAt_42 : decode cX0_numberAt 42 = .ok (.iadd, 1) := by decide +kernel
theorem dX0_numberAt_43 : decode cX0_numberAt 43 = .ok (.invokevirtual 69, 3) := by decide +kernel
theorem dX0_numberAt_46 : decode cX0_numberAt 46 = .ok (.ireturn, 1) := by decide +kernel
theorem dX0_numberAt_47 : decode cX0_numberAt 47 = .ok (.bipush 10, 2) := by decide +kernel
theorem dX0_numberAt_49 : decode cX0_numberAt 49 = .ok (.aload_n 0, 1) := by decide +kernel
theorem dX0_numberAt_50 : decode cX0_numberAt 50 = .ok (.getfield 14, 3) := by decide +kernel
theorem dX0_numberAt_53 : decode cX0_numberAt 53 = .ok (.iload_n 1, 1) := by decide +kernel
theorem dX0_numberAt_54 : decode cX0_numberAt 54 = .ok (.iconst 1, 1) := by decide +kernel
theorem dX0_numberAt_55 : decode cX0_numberAt 55 = .ok (.iadd, 1) := by decide +kernel
theorem dX0_numberAt_56 : decode cX0_numberAt 56 = .ok (.invokevirtual 69, 3) := by decide +kernel
theorem dX0_numberAt_59 : decode cX0_numberAt 59 = .ok (.imul, 1) := by decide +kernel
theorem dX0_numberAt_60 : decode cX0_numberAt 60 = .ok (.aload_n 0, 1) := by decide +kernel
theorem dX0_numberAt_61 : decode cX0_numberAt 61 = .ok (.getfield 14, 3) := by decide +kernel
theorem dX0_numberAt_64 : decode cX0_numberAt 64 = .ok (.iload_n 1, 1) := by decide +kernel
theorem dX0_numberAt_65 : decode cX0_numberAt 65 = .ok (.iconst 2, 1) := by decide +kernel
theorem dX0_numberAt_66 : decode cX0_numberAt 66 = .ok (.iadd, 1) := by decide +kernel
theorem dX0_numberAt_67 : decode cX0_numberAt 67 = .ok (.invokevirtual 69, 3) := by decide +kernel
theorem dX0_numberAt_70 : decode cX0_numberAt 70 = .ok (.iadd, 1) := by decide +kernel
theorem dX0_numberAt_71 : decode cX0_numberAt 71 = .ok (.ireturn, 1) := by decide +kernel
theorem dX0_numberAt_72 : decode cX0_numberAt 72 = .ok (.bipush (-4), 2) := by decide +kernel
theorem dX0_numberAt_74 : decode cX0_numberAt 74 = .ok (.ireturn, 1) := by decide +kernel
theorem dX1_init_0 : decode cX1_init 0 = .ok (.aload_n 0, 1) := by decide +kernel
theorem dX1_init_1 : decode cX1_init 1 = .ok (.invokespecial 3, 3) := by decide +kernel
theorem dX1_init_4 : decode cX1_init 4 = .ok (.aload_n 0, 1) := by decide +kernel
theorem dX1_init_5 : decode cX1_init 5 = .ok (.iconst 4, 1) := by decide +kernel
theorem dX1_init_6 : decode cX1_init 6 = .ok (.anewarray 9, 3) := by decide +kernel
theorem dX1_init_9 : decode cX1_init 9 = .ok (.putfield 11, 3) := by decide +kernel
theorem dX1_init_12 : decode cX1_init 12 = .ok (.iconst 0, 1) := by decide +kernel
theorem dX1_init_13 : decode cX1_init 13 = .ok (.istore_n 1, 1) := by decide +kernel
theorem dX1_init_14 : decode cX1_init 14 = .ok (.iload_n 1, 1) := by decide +kernel
theorem dX1_init_15 : decode cX1_init 15 = .ok (.iconst 4, 1) := by decide +kernel
theorem dX1_init_16 : decode cX1_init 16 = .ok (.if_icmp .ge 22, 3) := by decide +kernel
theorem dX1_init_19 : decode cX1_init 19 = .ok (.aload_n 0, 1) := by decide +kernel
theorem dX1_init_20 : decode cX1_init 20 = .ok (.getfield 11, 3) := by decide +kernel
theorem dX1_init_23 : decode cX1_init 23 = .ok (.iload_n 1, 1) := by decide +kernel
theorem dX1_init_24 : decode cX1_init 24 = .ok (.new 9, 3) := by decide +kernel
theorem dX1_init_27 : decode cX1_init 27 = .ok (.dup, 1) := by decide +kernel
theorem dX1_init_28 : decode cX1_init 28 = .ok (.invokespecial 17, 3) := by decide +kernel
theorem dX1_init_31 : decode cX1_init 31 = .ok (.aastore, 1) := by decide +kernel
theorem dX1_init_32 : decode cX1_init 32 = .ok (.iinc 1 1, 3) := by decide +kernel
theorem dX1_init_35 : decode cX1_init 35 = .ok (.goto (-21), 3) := by decide +kernel
theorem dX1_init_38 : decode cX1_init 38 = .ok (.return_, 1) := by decide +kernel
theorem dX1_keep_0 : decode cX1_keep 0 = .ok (.aload_n 0, 1) := by decide +kernel
theorem dX1_keep_1 : decode cX1_keep 1 = .ok (.aload_n 0, 1) := by decide +kernel
theorem dX1_keep_2 : decode cX1_keep 2 = .ok (.getfield 18, 3) := by decide +kernel
theorem dX1_keep_5 : decode cX1_keep 5 = .ok (.iconst 1, 1) := by decide +kernel
theorem dX1_keep_6 : decode cX1_keep 6 = .ok (.iadd, 1) := by decide +kernel
theorem dX1_keep_7 : decode cX1_keep 7 = .ok (.iconst 4, 1) := by decide +kernel
theorem dX1_keep_8 : decode cX1_keep 8 = .ok (.invokestatic 22, 3) := by decide +kernel
theorem dX1_keep_11 : decode cX1_keep 11 = .ok (.putfield 18, 3) := by decide +kernel
theorem dX1_keep_14 : decode cX1_keep 14 = .ok (.aload_n 0, 1) := by decide +kernel
theorem dX1_keep_15 : decode cX1_keep 15 = .ok (.getfield 11, 3) := by decide +kernel
theorem dX1_keep_18 : decode cX1_keep 18 = .ok (.aload_n 0, 1) := by decide +kernel
theorem dX1_keep_19 : decode cX1_keep 19 = .ok (.getfield 18, 3) := by decide +kernel
theorem dX1_keep_22 : decode cX1_keep 22 = .ok (.aaload, 1) := by decide +kernel
theorem dX1_keep_23 : decode cX1_keep 23 = .ok (.astore_n 2, 1) := by decide +kernel
theorem dX1_keep_24 : decode cX1_keep 24 = .ok (.aload_n 2, 1) := by decide +kernel
theorem dX1_keep_25 : decode cX1_keep 25 = .ok (.ifnull 8, 3) := by decide +kernel
theorem dX1_keep_28 : decode cX1_keep 28 = .ok (.aload_n 2, 1) := by decide +kernel
theorem dX1_keep_29 : decode cX1_keep 29 = .ok (.aload_n 1, 1) := by decide +kernel
theorem dX1_keep_30 : decode cX1_keep 30 = .ok (.invokevirtual 28, 3) := by decide +kernel
theorem dX1_keep_33 : decode cX1_keep 33 = .ok (.aload_n 0, 1) := by decide +kernel
theorem dX1_keep_34 : decode cX1_keep 34 = .ok (.aload_n 0, 1) := by decide +kernel
theorem dX1_keep_35 : decode cX1_keep 35 = .ok (.getfield 32, 3) := by decide +kernel
theorem dX1_keep_38 : decode cX1_keep 38 = .ok (.iconst 1, 1) := by decide +kernel
theorem dX1_keep_39 : decode cX1_keep 39 = .ok (.iadd, 1) := by decide +kernel
theorem dX1_keep_40 : decode cX1_keep 40 = .ok (.iconst 4, 1) := by decide +kernel
theorem dX1_keep_41 : decode cX1_keep 41 = .ok (.invokestatic 35, 3) := by decide +kernel
theorem dX1_keep_44 : decode cX1_keep 44 = .ok (.putfield 32, 3) := by decide +kernel
theorem dX1_keep_47 : decode cX1_keep 47 = .ok (.return_, 1) := by decide +kernel
theorem dX1_giveBack_0 : decode cX1_giveBack 0 = .ok (.aload_n 0, 1) := by decide +kernel
theorem dX1_giveBack_1 : decode cX1_giveBack 1 = .ok (.getfield 18, 3) := by decide +kernel
theorem dX1_giveBack_4 : decode cX1_giveBack 4 = .ok (.iconst 4, 1) := by decide +kernel
theorem dX1_giveBack_5 : decode cX1_giveBack 5 = .ok (.invokestatic 22, 3) := by decide +kernel
theorem dX1_giveBack_8 : decode cX1_giveBack 8 = .ok (.istore_n 2, 1) := by decide +kernel
theorem dX1_giveBack_9 : decode cX1_giveBack 9 = .ok (.aload_n 0, 1) := by decide +kernel
theorem dX1_giveBack_10 : decode cX1_giveBack 10 = .ok (.getfield 11, 3) := by decide +kernel
theorem dX1_giveBack_13 : decode cX1_giveBack 13 = .ok (.iload_n 2, 1) := by decide +kernel
theorem dX1_giveBack_14 : decode cX1_giveBack 14 = .ok (.aaload, 1) := by decide +kernel
theorem dX1_giveBack_15 : decode cX1_giveBack 15 = .ok (.astore_n 3, 1) := by decide +kernel
theorem dX1_giveBack_16 : decode cX1_giveBack 16 = .ok (.aload_n 0, 1) := by decide +kernel
theorem dX1_giveBack_17 : decode cX1_giveBack 17 = .ok (.getfield 32, 3) := by decide +kernel
theorem dX1_giveBack_20 : decode cX1_giveBack 20 = .ok (.ifCond .le 36, 3) := by decide +kernel
theorem dX1_giveBack_23 : decode cX1_giveBack 23 = .ok (.aload_n 3, 1) := by decide +kernel
theorem dX1_giveBack_24 : decode cX1_giveBack 24 = .ok (.ifnull 32, 3) := by decide +kernel
theorem dX1_giveBack_27 : decode cX1_giveBack 27 = .ok (.aload_n 1, 1) := by decide +kernel
theorem dX1_giveBack_28 : decode cX1_giveBack 28 = .ok (.aload_n 3, 1) := by decide +kernel
theorem dX1_giveBack_29 : decode cX1_giveBack 29 = .ok (.invokevirtual 28, 3) := by decide +kernel
theorem dX1_giveBack_32 : decode cX1_giveBack 32 = .ok (.aload_n 0, 1) := by decide +kernel
theorem dX1_giveBack_33 : decode cX1_giveBack 33 = .ok (.aload_n 0, 1) := by decide +kernel
theorem dX1_giveBack_34 : decode cX1_giveBack 34 = .ok (.getfield 18, 3) := by decide +kernel
theorem dX1_giveBack_37 : decode cX1_giveBack 37 = .ok (.iconst 1, 1) := by decide +kernel
theorem dX1_giveBack_38 : decode cX1_giveBack 38 = .ok (.isub, 1) := by decide +kernel
theorem dX1_giveBack_39 : decode cX1_giveBack 39 = .ok (.iconst 4, 1) := by decide +kernel
theorem dX1_giveBack_40 : decode cX1_giveBack 40 = .ok (.invokestatic 22, 3) := by decide +kernel
theorem dX1_giveBack_43 : decode cX1_giveBack 43 = .ok (.putfield 18, 3) := by decide +kernel
theorem dX1_giveBack_46 : decode cX1_giveBack 46 = .ok (.aload_n 0, 1) := by decide +kernel
theorem dX1_giveBack_47 : decode cX1_giveBack 47 = .ok (.dup, 1) := by decide +kernel
theorem dX1_giveBack_48 : decode cX1_giveBack 48 = .ok (.getfield 32, 3) := by decide +kernel
theorem dX1_giveBack_51 : decode cX1_giveBack 51 = .ok (.iconst 1, 1) := by decide +kernel
theorem dX1_giveBack_52 : decode cX1_giveBack 52 = .ok (.isub, 1) := by decide +kernel
theorem dX1_giveBack_53 : decode cX1_giveBack 53 = .ok (.putfield 32, 3) := by decide +kernel
theorem dX1_giveBack_56 : decode cX1_giveBack 56 = .ok (.return_, 1) := by decide +kernel
theorem dX1_clear_0 : decode cX1_clear 0 = .ok (.aload_n 0, 1) := by decide +kernel
theorem dX1_clear_1 : decode cX1_clear 1 = .ok (.iconst 0, 1) := by decide +kernel
theorem dX1_clear_2 : decode cX1_clear 2 = .ok (.putfield 32, 3) := by decide +kernel
theorem dX1_clear_5 : decode cX1_clear 5 = .ok (.return_, 1) := by decide +kernel
theorem dX2_init_0 : decode cX2_init 0 = .ok (.aload_n 0, 1) := by decide +kernel
theorem dX2_init_1 : decode cX2_init 1 = .ok (.invokespecial 3, 3) := by decide +kernel
theorem dX2_init_4 : decode cX2_init 4 = .ok (.aload_n 0, 1) := by decide +kernel
theorem dX2_init_5 : decode cX2_init 5 = .ok (.bipush 8, 2) := by decide +kernel
theorem dX2_init_7 : decode cX2_init 7 = .ok (.newarray .int, 2) := by decide +kernel
theorem dX2_init_9 : decode cX2_init 9 = .ok (.putfield 9, 3) := by decide +kernel
theorem dX2_init_12 : decode cX2_init 12 = .ok (.return_, 1) := by decide +kernel
theorem dX2_has_0 : decode cX2_has 0 = .ok (.iload_n 1, 1) := by decide +kernel
theorem dX2_has_1 : decode cX2_has 1 = .ok (.ifCond .lt 16, 3) := by decide +kernel
theorem dX2_has_4 : decode cX2_has 4 = .ok (.iload_n 1, 1) := by decide +kernel
theorem dX2_has_5 : decode cX2_has 5 = .ok (.aload_n 0, 1) := by decide +kernel
theorem dX2_has_6 : decode cX2_has 6 = .ok (.getfield 9, 3) := by decide +kernel
theorem dX2_has_9 : decode cX2_has 9 = .ok (.arraylength, 1) := by decide +kernel
theorem dX2_has_10 : decode cX2_has 10 = .ok (.if_icmp .ge 7, 3) := by decide +kernel
theorem dX2_has_13 : decode cX2_has 13 = .ok (.iconst 1, 1) := by decide +kernel
theorem dX2_has_14 : decode cX2_has 14 = .ok (.goto 4, 3) := by decide +kernel
theorem dX2_has_17 : decode cX2_has 17 = .ok (.iconst 0, 1) := by decide +kernel
theorem dX2_has_18 : decode cX2_has 18 = .ok (.ireturn, 1) := by decide +kernel
theorem dX2_get_0 : decode cX2_get 0 = .ok (.aload_n 0, 1) := by decide +kernel
theorem dX2_get_1 : decode cX2_get 1 = .ok (.iload_n 1, 1) := by decide +kernel
theorem dX2_get_2 : decode cX2_get 2 = .ok (.invokevirtual 15, 3) := by decide +kernel
theorem dX2_get_5 : decode cX2_get 5 = .ok (.ifCond .eq 12, 3) := by decide +kernel
theorem dX2_get_8 : decode cX2_get 8 = .ok (.aload_n 0, 1) := by decide +kernel
theorem dX2_get_9 : decode cX2_get 9 = .ok (.getfield 9, 3) := by decide +kernel
theorem dX2_get_12 : decode cX2_get 12 = .ok (.iload_n 1, 1) := by decide +kernel
theorem dX2_get_13 : decode cX2_get 13 = .ok (.iaload, 1) := by decide +kernel
theorem dX2_get_14 : decode cX2_get 14 = .ok (.goto 4, 3) := by decide +kernel
theorem dX2_get_17 : decode cX2_get 17 = .ok (.iconst 0, 1) := by decide +kernel
theorem dX2_get_18 : decode cX2_get 18 = .ok (.ireturn, 1) := by decide +kernel
theorem dX2_put_0 : decode cX2_put 0 = .ok (.aload_n 0, 1) := by decide +kernel
theorem dX2_put_1 : decode cX2_put 1 = .ok (.iload_n 1, 1) := by decide +kernel
theorem dX2_put_2 : decode cX2_put 2 = .ok (.invokevirtual 15, 3) := by decide +kernel
theorem dX2_put_5 : decode cX2_put 5 = .ok (.ifCond .eq 10, 3) := by decide +kernel
theorem dX2_put_8 : decode cX2_put 8 = .ok (.aload_n 0, 1) := by decide +kernel
theorem dX2_put_9 : decode cX2_put 9 = .ok (.getfield 9, 3) := by decide +kernel
theorem dX2_put_12 : decode cX2_put 12 = .ok (.iload_n 1, 1) := by decide +kernel
theorem dX2_put_13 : decode cX2_put 13 = .ok (.iload_n 2, 1) := by decide +kernel
theorem dX2_put_14 : decode cX2_put 14 = .ok (.iastore, 1) := by decide +kernel
theorem dX2_put_15 : decode cX2_put 15 = .ok (.return_, 1) := by decide +kernel
theorem dX2_together_0 : decode cX2_together 0 = .ok (.iconst 0, 1) := by decide +kernel
theorem dX2_together_1 : decode cX2_together 1 = .ok (.istore_n 1, 1) := by decide +kernel
theorem dX2_together_2 : decode cX2_together 2 = .ok (.iconst 0, 1) := by decide +kernel
theorem dX2_together_3 : decode cX2_together 3 = .ok (.istore_n 2, 1) := by decide +kernel
theorem dX2_together_4 : decode cX2_together 4 = .ok (.iload_n 2, 1) := by decide +kernel
theorem dX2_together_5 : decode cX2_together 5 = .ok (.aload_n 0, 1) := by decide +kernel
theorem dX2_together_6 : decode cX2_together 6 = .ok (.getfield 9, 3) := by decide +kernel
theorem dX2_together_9 : decode cX2_together 9 = .ok (.arraylength, 1) := by decide +kernel
theorem dX2_together_10 : decode cX2_together 10 = .ok (.if_icmp .ge 18, 3) := by decide +kernel
theorem dX2_together_13 : decode cX2_together 13 = .ok (.iload_n 1, 1) := by decide +kernel
theorem dX2_together_14 : decode cX2_together 14 = .ok (.aload_n 0, 1) := by decide +kernel
theorem dX2_together_15 : decode cX2_together 15 = .ok (.getfield 9, 3) := by decide +kernel
theorem dX2_together_18 : decode cX2_together 18 = .ok (.iload_n 2, 1) := by decide +kernel
theorem dX2_together_19 : decode cX2_together 19 = .ok (.iaload, 1) := by decide +kernel
theorem dX2_together_20 : decode cX2_together 20 = .ok (.iadd, 1) := by decide +kernel
theorem dX2_together_21 : decode cX2_together 21 = .ok (.istore_n 1, 1) := by decide +kernel
theorem dX2_together_22 : decode cX2_together 22 = .ok (.iinc 2 1, 3) := by decide +kernel
theorem dX2_together_25 : decode cX2_together 25 = .ok (.goto (-21), 3) := by decide +kernel
theorem dX2_together_28 : decode cX2_together 28 = .ok (.iload_n 1, 1) := by decide +kernel
theorem dX2_together_29 : decode cX2_together 29 = .ok (.ireturn, 1) := by decide +kernel
theorem dX2_clear_0 : decode cX2_clear 0 = .ok (.iconst 0, 1) := by decide +kernel
theorem dX2_clear_1 : decode cX2_clear 1 = .ok (.istore_n 1, 1) := by decide +kernel
theorem dX2_clear_2 : decode cX2_clear 2 = .ok (.iload_n 1, 1) := by decide +kernel
theorem dX2_clear_3 : decode cX2_clear 3 = .ok (.aload_n 0, 1) := by decide +kernel
theorem dX2_clear_4 : decode cX2_clear 4 = .ok (.getfield 9, 3) := by decide +kernel
theorem dX2_clear_7 : decode cX2_clear 7 = .ok (.arraylength, 1) := by decide +kernel
theorem dX2_clear_8 : decode cX2_clear 8 = .ok (.if_icmp .ge 16, 3) := by decide +kernel
theorem dX2_clear_11 : decode cX2_clear 11 = .ok (.aload_n 0, 1) := by decide +kernel
theorem dX2_clear_12 : decode cX2_clear 12 = .ok (.getfield 9, 3) := by decide +kernel
theorem dX2_clear_15 : decode cX2_clear 15 = .ok (.iload_n 1, 1) := by decide +kernel
theorem dX2_clear_16 : decode cX2_clear 16 = .ok (.iconst 0, 1) := by decide +kernel
theorem dX2_clear_17 : decode cX2_clear 17 = .ok (.iastore, 1) := by decide +kernel
theorem dX2_clear_18 : decode cX2_clear 18 = .ok (.iinc 1 1, 3) := by decide +kernel
theorem dX2_clear_21 : decode cX2_clear 21 = .ok (.goto (-19), 3) := by decide +kernel
theorem dX2_clear_24 : decode cX2_clear 24 = .ok (.return_, 1) := by decide +kernel
theorem dX2_copyFrom_0 : decode cX2_copyFrom 0 = .ok (.aload_n 1, 1) := by decide +kernel
theorem dX2_copyFrom_1 : decode cX2_copyFrom 1 = .ok (.getfield 9, 3) := by decide +kernel
theorem dX2_copyFrom_4 : decode cX2_copyFrom 4 = .ok (.iconst 0, 1) := by decide +kernel
theorem dX2_copyFrom_5 : decode cX2_copyFrom 5 = .ok (.aload_n 0, 1) := by decide +kernel
theorem dX2_copyFrom_6 : decode cX2_copyFrom 6 = .ok (.getfield 9, 3) := by decide +kernel
theorem dX2_copyFrom_9 : decode cX2_copyFrom 9 = .ok (.iconst 0, 1) := by decide +kernel
theorem dX2_copyFrom_10 : decode cX2_copyFrom 10 = .ok (.bipush 8, 2) := by decide +kernel
theorem dX2_copyFrom_12 : decode cX2_copyFrom 12 = .ok (.invokestatic 19, 3) := by decide +kernel
theorem dX2_copyFrom_15 : decode cX2_copyFrom 15 = .ok (.return_, 1) := by decide +kernel
theorem dX3_init_0 : decode cX3_init 0 = .ok (.aload_n 0, 1) := by decide +kernel
theorem dX3_init_1 : decode cX3_init 1 = .ok (.invokespecial 3, 3) := by decide +kernel
theorem dX3_init_4 : decode cX3_init 4 = .ok (.aload_n 0, 1) := by decide +kernel
theorem dX3_init_5 : decode cX3_init 5 = .ok (.iconst 3, 1) := by decide +kernel
theorem dX3_init_6 : decode cX3_init 6 = .ok (.putfield 9, 3) := by decide +kernel
theorem dX3_init_9 : decode cX3_init 9 = .ok (.aload_n 0, 1) := by decide +kernel
theorem dX3_init_10 : decode cX3_init 10 = .ok (.iload_n 1, 1) := by decide +kernel
theorem dX3_init_11 : decode cX3_init 11 = .ok (.putfield 15, 3) := by decide +kernel
theorem dX3_init_14 : decode cX3_init 14 = .ok (.return_, 1) := by decide +kernel
theorem dX3_layOn_0 : decode cX3_layOn 0 = .ok (.aload_n 0, 1) := by decide +kernel
theorem dX3_layOn_1 : decode cX3_layOn 1 = .ok (.iconst 0, 1) := by decide +kernel
theorem dX3_layOn_2 : decode cX3_layOn 2 = .ok (.putfield 9, 3) := by decide +kernel
theorem dX3_layOn_5 : decode cX3_layOn 5 = .ok (.aload_n 0, 1) := by decide +kernel
theorem dX3_layOn_6 : decode cX3_layOn 6 = .ok (.iload_n 1, 1) := by decide +kernel
theorem dX3_layOn_7 : decode cX3_layOn 7 = .ok (.putfield 18, 3) := by decide +kernel
theorem dX3_layOn_10 : decode cX3_layOn 10 = .ok (.aload_n 0, 1) := by decide +kernel
theorem dX3_layOn_11 : decode cX3_layOn 11 = .ok (.iload_n 2, 1) := by decide +kernel
theorem dX3_layOn_12 : decode cX3_layOn 12 = .ok (.putfield 21, 3) := by decide +kernel
theorem dX3_layOn_15 : decode cX3_layOn 15 = .ok (.aload_n 0, 1) := by decide +kernel
theorem dX3_layOn_16 : decode cX3_layOn 16 = .ok (.iconst 0, 1) := by decide +kernel
theorem dX3_layOn_17 : decode cX3_layOn 17 = .ok (.putfield 24, 3) := by decide +kernel
theorem dX3_layOn_20 : decode cX3_layOn 20 = .ok (.aload_n 0, 1) := by decide +kernel
theorem dX3_layOn_21 : decode cX3_layOn 21 = .ok (.iconst 0, 1) := by decide +kernel
theorem dX3_layOn_22 : decode cX3_layOn 22 = .ok (.putfield 27, 3) := by decide +kernel
theorem dX3_layOn_25 : decode cX3_layOn 25 = .ok (.aload_n 0, 1) := by decide +kernel
theorem dX3_layOn_26 : decode cX3_layOn 26 = .ok (.iconst 0, 1) := by decide +kernel
theorem dX3_layOn_27 : decode cX3_layOn 27 = .ok (.putfield 30, 3) := by decide +kernel
theorem dX3_layOn_30 : decode cX3_layOn 30 = .ok (.aload_n 0, 1) := by decide +kernel
theorem dX3_layOn_31 : decode cX3_layOn 31 = .ok (.iconst 0, 1) := by decide +kernel
theorem dX3_layOn_32 : decode cX3_layOn 32 = .ok (.putfield 33, 3) := by decide +kernel
theorem dX3_layOn_35 : decode cX3_layOn 35 = .ok (.aload_n 0, 1) := by decide +kernel
theorem dX3_layOn_36 : decode cX3_layOn 36 = .ok (.aconst_null, 1) := by decide +kernel
theorem dX3_layOn_37 : decode cX3_layOn 37 = .ok (.putfield 36, 3) := by decide +kernel
theorem dX3_layOn_40 : decode cX3_layOn 40 = .ok (.return_, 1) := by decide +kernel
theorem dX3_goIfNobodyIsInside_0 : decode cX3_goIfNobodyIsInside 0 = .ok (.aload_n 0, 1) := by decide +kernel
theorem dX3_goIfNobodyIsInside_1 : decode cX3_goIfNobodyIsInside 1 = .ok (.getfield 9, 3) := by decide +kernel
theorem dX3_goIfNobodyIsInside_4 : decode cX3_goIfNobodyIsInside 4 = .ok (.iconst 2, 1) := by decide +kernel
theorem dX3_goIfNobodyIsInside_5 : decode cX3_goIfNobodyIsInside 5 = .ok (.if_icmp .ne 15, 3) := by decide +kernel
theorem dX3_goIfNobodyIsInside_8 : decode cX3_goIfNobodyIsInside 8 = .ok (.aload_n 0, 1) := by decide +kernel
theorem dX3_goIfNobodyIsInside_9 : decode cX3_goIfNobodyIsInside 9 = .ok (.getfield 33, 3) := by decide +kernel
theorem dX3_goIfNobodyIsInside_12 : decode cX3_goIfNobodyIsInside 12 = .ok (.ifCond .gt 8, 3) := by decide +kernel
theorem dX3_goIfNobodyIsInside_15 : decode cX3_goIfNobodyIsInside 15 = .ok (.aload_n 0, 1) := by decide +kernel
theorem dX3_goIfNobodyIsInside_16 : decode cX3_goIfNobodyIsInside 16 = .ok (.iconst 3, 1) := by decide +kernel
theorem dX3_goIfNobodyIsInside_17 : decode cX3_goIfNobodyIsInside 17 = .ok (.putfield 9, 3) := by decide +kernel
theorem dX3_goIfNobodyIsInside_20 : decode cX3_goIfNobodyIsInside 20 = .ok (.return_, 1) := by decide +kernel
theorem dX3_tell_0 : decode cX3_tell 0 = .ok (.iload_n 1, 1) := by decide +kernel
theorem dX3_tell_1 : decode cX3_tell 1 = .ok (.tableswitch 101 0 7 #[47, 52, 57, 62, 67, 72, 77, 82], 47) := by decide +kernel
theorem dX3_tell_48 : decode cX3_tell 48 = .ok (.aload_n 0, 1) := by decide +kernel
theorem dX3_tell_49 : decode cX3_tell 49 = .ok (.getfield 9, 3) := by decide +kernel
theorem dX3_tell_52 : decode cX3_tell 52 = .ok (.ireturn, 1) := by decide +kernel
theorem dX3_tell_53 : decode cX3_tell 53 = .ok (.aload_n 0, 1) := by decide +kernel
theorem dX3_tell_54 : decode cX3_tell 54 = .ok (.getfield 18, 3) := by decide +kernel
theorem dX3_tell_57 : decode cX3_tell 57 = .ok (.ireturn, 1) := by decide +kernel
theorem dX3_tell_58 : decode cX3_tell 58 = .ok (.aload_n 0, 1) := by decide +kernel
theorem dX3_tell_59 : decode cX3_tell 59 = .ok (.getfield 21, 3) := by decide +kernel
theorem dX3_tell_62 : decode cX3_tell 62 = .ok (.ireturn, 1) := by decide +kernel
theorem dX3_tell_63 : decode cX3_tell 63 = .ok (.aload_n 0, 1) := by decide +kernel
theorem dX3_tell_64 : decode cX3_tell 64 = .ok (.getfield 24, 3) := by decide +kernel
theorem dX3_tell_67 : decode cX3_tell 67 = .ok (.ireturn, 1) := by decide +kernel
theorem dX3_tell_68 : decode cX3_tell 68 = .ok (.aload_n 0, 1) := by decide +kernel
theorem dX3_tell_69 : decode cX3_tell 69 = .ok (.getfield 27, 3) := by decide +kernel
theorem dX3_tell_72 : decode cX3_tell 72 = .ok (.ireturn, 1) := by decide +kernel
theorem dX3_tell_73 : decode cX3_tell 73 = .ok (.aload_n 0, 1) := by decide +kernel
theorem dX3_tell_74 : decode cX3_tell 74 = .ok (.getfield 30, 3) := by decide +kernel
theorem dX3_tell_77 : decode cX3_tell 77 = .ok (.ireturn, 1) := by decide +kernel
theorem dX3_tell_78 : decode cX3_tell 78 = .ok (.aload_n 0, 1) := by decide +kernel
theorem dX3_tell_79 : decode cX3_tell 79 = .ok (.getfield 33, 3) := by decide +kernel
theorem dX3_tell_82 : decode cX3_tell 82 = .ok (.ireturn, 1) := by decide +kernel
theorem dX3_tell_83 : decode cX3_tell 83 = .ok (.aload_n 0, 1) := by decide +kernel
theorem dX3_tell_84 : decode cX3_tell 84 = .ok (.getfield 36, 3) := by decide +kernel
theorem dX3_tell_87 : decode cX3_tell 87 = .ok (.ifnonnull 7, 3) := by decide +kernel
theorem dX3_tell_90 : decode cX3_tell 90 = .ok (.iconst 0, 1) := by decide +kernel
theorem dX3_tell_91 : decode cX3_tell 91 = .ok (.goto 10, 3) := by decide +kernel
theorem dX3_tell_94 : decode cX3_tell 94 = .ok (.aload_n 0, 1) := by decide +kernel
theorem dX3_tell_95 : decode cX3_tell 95 = .ok (.getfield 36, 3) := by decide +kernel
theorem dX3_tell_98 : decode cX3_tell 98 = .ok (.getfield 40, 3) := by decide +kernel
theorem dX3_tell_101 : decode cX3_tell 101 = .ok (.ireturn, 1) := by decide +kernel
theorem dX3_tell_102 : decode cX3_tell 102 = .ok (.iconst (-1), 1) := by decide +kernel
theorem dX3_tell_103 : decode cX3_tell 103 = .ok (.ireturn, 1) := by decide +kernel
theorem dX3_copyFrom_0 : decode cX3_copyFrom 0 = .ok (.aload_n 0, 1) := by decide +kernel
theorem dX3_copyFrom_1 : decode cX3_copyFrom 1 = .ok (.aload_n 1, 1) := by decide +kernel
theorem dX3_copyFrom_2 : decode cX3_copyFrom 2 = .ok (.getfield 9, 3) := by decide +kernel
theorem dX3_copyFrom_5 : decode cX3_copyFrom 5 = .ok (.putfield 9, 3) := by decide +kernel
theorem dX3_copyFrom_8 : decode cX3_copyFrom 8 = .ok (.aload_n 0, 1) := by decide +kernel
theorem dX3_copyFrom_9 : decode cX3_copyFrom 9 = .ok (.aload_n 1, 1) := by decide +kernel
theorem dX3_copyFrom_10 : decode cX3_copyFrom 10 = .ok (.getfield 18, 3) := by decide +kernel
theorem dX3_copyFrom_13 : decode cX3_copyFrom 13 = .ok (.putfield 18, 3) := by decide +kernel
theorem dX3_copyFrom_16 : decode cX3_copyFrom 16 = .ok (.aload_n 0, 1) := by decide +kernel
theorem dX3_copyFrom_17 : decode cX3_copyFrom 17 = .ok (.aload_n 1, 1) := by decide +kernel
theorem dX3_copyFrom_18 : decode cX3_copyFrom 18 = .ok (.getfield 21, 3) := by decide +kernel
theorem dX3_copyFrom_21 : decode cX3_copyFrom 21 = .ok (.putfield 21, 3) := by decide +kernel
theorem dX3_copyFrom_24 : decode cX3_copyFrom 24 = .ok (.aload_n 0, 1) := by decide +kernel
theorem dX3_copyFrom_25 : decode cX3_copyFrom 25 = .ok (.aload_n 1, 1) := by decide +kernel
theorem dX3_copyFrom_26 : decode cX3_copyFrom 26 = .ok (.getfield 24, 3) := by decide +kernel
theorem dX3_copyFrom_29 : decode cX3_copyFrom 29 = .ok (.putfield 24, 3) := by decide +kernel
theorem dX3_copyFrom_32 : decode cX3_copyFrom 32 = .ok (.aload_n 0, 1) := by decide +kernel
theorem dX3_copyFrom_33 : decode cX3_copyFrom 33 = .ok (.aload_n 1, 1) := by decide +kernel
theorem dX3_copyFrom_34 : decode cX3_copyFrom 34 = .ok (.getfield 27, 3) := by decide +kernel
theorem dX3_copyFrom_37 : decode cX3_copyFrom 37 = .ok (.putfield 27, 3) := by decide +kernel
theorem dX3_copyFrom_40 : decode cX3_copyFrom 40 = .ok (.aload_n 0, 1) := by decide +kernel
theorem dX3_copyFrom_41 : decode cX3_copyFrom 41 = .ok (.aload_n 1, 1) := by decide +kernel
theorem dX3_copyFrom_42 : decode cX3_copyFrom 42 = .ok (.getfield 30, 3) := by decide +kernel
theorem dX3_copyFrom_45 : decode cX3_copyFrom 45 = .ok (.putfield 30, 3) := by decide +kernel
theorem dX3_copyFrom_48 : decode cX3_copyFrom 48 = .ok (.aload_n 0, 1) := by decide +kernel
theorem dX3_copyFrom_49 : decode cX3_copyFrom 49 = .ok (.aload_n 1, 1) := by decide +kernel
theorem dX3_copyFrom_50 : decode cX3_copyFrom 50 = .ok (.getfield 33, 3) := by decide +kernel
theorem dX3_copyFrom_53 : decode cX3_copyFrom 53 = .ok (.putfield 33, 3) := by decide +kernel
theorem dX3_copyFrom_56 : decode cX3_copyFrom 56 = .ok (.aload_n 0, 1) := by decide +kernel
theorem dX3_copyFrom_57 : decode cX3_copyFrom 57 = .ok (.aload_n 1, 1) := by decide +kernel
theorem dX3_copyFrom_58 : decode cX3_copyFrom 58 = .ok (.getfield 36, 3) := by decide +kernel
theorem dX3_copyFrom_61 : decode cX3_copyFrom 61 = .ok (.putfield 36, 3) := by decide +kernel
theorem dX3_copyFrom_64 : decode cX3_copyFrom 64 = .ok (.return_, 1) := by decide +kernel
theorem dX4_init_0 : decode cX4_init 0 = .ok (.aload_n 0, 1) := by decide +kernel
theorem dX4_init_1 : decode cX4_init 1 = .ok (.invokespecial 3, 3) := by decide +kernel
theorem dX4_init_4 : decode cX4_init 4 = .ok (.aload_n 0, 1) := by decide +kernel
theorem dX4_init_5 : decode cX4_init 5 = .ok (.bipush 6, 2) := by decide +kernel
theorem dX4_init_7 : decode cX4_init 7 = .ok (.newarray .int, 2) := by decide +kernel
theorem dX4_init_9 : decode cX4_init 9 = .ok (.putfield 9, 3) := by decide +kernel
theorem dX4_init_12 : decode cX4_init 12 = .ok (.aload_n 0, 1) := by decide +kernel
theorem dX4_init_13 : decode cX4_init 13 = .ok (.bipush 6, 2) := by decide +kernel
theorem dX4_init_15 : decode cX4_init 15 = .ok (.newarray .int, 2) := by decide +kernel
theorem dX4_init_17 : decode cX4_init 17 = .ok (.putfield 15, 3) := by decide +kernel
theorem dX4_init_20 : decode cX4_init 20 = .ok (.aload_n 0, 1) := by decide +kernel
theorem dX4_init_21 : decode cX4_init 21 = .ok (.new 18, 3) := by decide +kernel
theorem dX4_init_24 : decode cX4_init 24 = .ok (.dup, 1) := by decide +kernel
theorem dX4_init_25 : decode cX4_init 25 = .ok (.invokespecial 20, 3) := by decide +kernel
theorem dX4_init_28 : decode cX4_init 28 = .ok (.putfield 21, 3) := by decide +kernel
theorem dX4_init_31 : decode cX4_init 31 = .ok (.return_, 1) := by decide +kernel
theorem dX4_isAtInstruction_0 : decode cX4_isAtInstruction 0 = .ok (.aload_n 1, 1) := by decide +kernel
theorem dX4_isAtInstruction_1 : decode cX4_isAtInstruction 1 = .ok (.aload_n 0, 1) := by decide +kernel
theorem dX4_isAtInstruction_2 : decode cX4_isAtInstruction 2 = .ok (.getfield 25, 3) := by decide +kernel
theorem dX4_isAtInstruction_5 : decode cX4_isAtInstruction 5 = .ok (.invokevirtual 29, 3) := by decide +kernel
theorem dX4_isAtInstruction_8 : decode cX4_isAtInstruction 8 = .ok (.ifCond .ne 8, 3) := by decide +kernel
theorem dX4_isAtInstruction_11 : decode cX4_isAtInstruction 11 = .ok (.aload_n 0, 1) := by decide +kernel
theorem dX4_isAtInstruction_12 : decode cX4_isAtInstruction 12 = .ok (.iconst 1, 1) := by decide +kernel
theorem dX4_isAtInstruction_13 : decode cX4_isAtInstruction 13 = .ok (.putfield 35, 3) := by decide +kernel
theorem dX4_isAtInstruction_16 : decode cX4_isAtInstruction 16 = .ok (.aload_n 0, 1) := by decide +kernel
theorem dX4_isAtInstruction_17 : decode cX4_isAtInstruction 17 = .ok (.getfield 35, 3) := by decide +kernel
theorem dX4_isAtInstruction_20 : decode cX4_isAtInstruction 20 = .ok (.ifCond .ne 7, 3) := by decide +kernel
theorem dX4_isAtInstruction_23 : decode cX4_isAtInstruction 23 = .ok (.iconst 1, 1) := by decide +kernel
theorem dX4_isAtInstruction_24 : decode cX4_isAtInstruction 24 = .ok (.goto 4, 3) := by decide +kernel
theorem dX4_isAtInstruction_27 : decode cX4_isAtInstruction 27 = .ok (.iconst 0, 1) := by decide +kernel
theorem dX4_isAtInstruction_28 : decode cX4_isAtInstruction 28 = .ok (.ireturn, 1) := by decide +kernel
theorem dX4_perform_0 : decode cX4_perform 0 = .ok (.aload_n 1, 1) := by decide +kernel
theorem dX4_perform_1 : decode cX4_perform 1 = .ok (.aload_n 0, 1) := by decide +kernel
theorem dX4_perform_2 : decode cX4_perform 2 = .ok (.getfield 25, 3) := by decide +kernel
theorem dX4_perform_5 : decode cX4_perform 5 = .ok (.invokevirtual 39, 3) := by decide +kernel
theorem dX4_perform_8 : decode cX4_perform 8 = .ok (.istore_n 3, 1) := by decide +kernel
theorem dX4_perform_9 : decode cX4_perform 9 = .ok (.aload_n 1, 1) := by decide +kernel
theorem dX4_perform_10 : decode cX4_perform 10 = .ok (.aload_n 0, 1) := by decide +kernel
theorem dX4_perform_11 : decode cX4_perform 11 = .ok (.getfield 25, 3) := by decide +kernel
theorem dX4_perform_14 : decode cX4_perform 14 = .ok (.invokevirtual 43, 3) := by decide +kernel
theorem dX4_perform_17 : decode cX4_perform 17 = .ok (.istore 4, 2) := by decide +kernel
theorem dX4_perform_19 : decode cX4_perform 19 = .ok (.aload_n 0, 1) := by decide +kernel
theorem dX4_perform_20 : decode cX4_perform 20 = .ok (.iload_n 3, 1) := by decide +kernel
theorem dX4_perform_21 : decode cX4_perform 21 = .ok (.iload 4, 2) := by decide +kernel
theorem dX4_perform_23 : decode cX4_perform 23 = .ok (.aload_n 2, 1) := by decide +kernel
theorem dX4_perform_24 : decode cX4_perform 24 = .ok (.invokevirtual 47, 3) := by decide +kernel
theorem dX4_perform_27 : decode cX4_perform 27 = .ok (.aload_n 0, 1) := by decide +kernel
theorem dX4_perform_28 : decode cX4_perform 28 = .ok (.aload_n 0, 1) := by decide +kernel
theorem dX4_perform_29 : decode cX4_perform 29 = .ok (.iload_n 3, 1) := by decide +kernel
theorem dX4_perform_30 : decode cX4_perform 30 = .ok (.iload 4, 2) := by decide +kernel
theorem dX4_perform_32 : decode cX4_perform 32 = .ok (.invokevirtual 51, 3) := by decide +kernel
theorem dX4_perform_35 : decode cX4_perform 35 = .ok (.putfield 25, 3) := by decide +kernel
theorem dX4_perform_38 : decode cX4_perform 38 = .ok (.return_, 1) := by decide +kernel
theorem dX4_reckon_0 : decode cX4_reckon 0 = .ok (.iload_n 1, 1) := by decide +kernel
theorem dX4_reckon_1 : decode cX4_reckon 1 = .ok (.lookupswitch 134 #[(100, 68), (105, 51), (108, 89), (112, 113), (115, 101)], 51) := by decide +kernel
theorem dX4_reckon_52 : decode cX4_reckon 52 = .ok (.aload_n 0, 1) := by decide +kernel
theorem dX4_reckon_53 : decode cX4_reckon 53 = .ok (.aload_n 0, 1) := by decide +kernel
theorem dX4_reckon_54 : decode cX4_reckon 54 = .ok (.getfield 55, 3) := by decide +kernel
theorem dX4_reckon_57 : decode cX4_reckon 57 = .ok (.iconst 1, 1) := by decide +kernel
theorem dX4_reckon_58 : decode cX4_reckon 58 = .ok (.iadd, 1) := by decide +kernel
theorem dX4_reckon_59 : decode cX4_reckon 59 = .ok (.sipush 1000, 3) := by decide +kernel
theorem dX4_reckon_62 : decode cX4_reckon 62 = .ok (.irem, 1) := by decide +kernel
theorem dX4_reckon_63 : decode cX4_reckon 63 = .ok (.putfield 55, 3) := by decide +kernel
theorem dX4_reckon_66 : decode cX4_reckon 66 = .ok (.goto 69, 3) := by decide +kernel
theorem dX4_reckon_69 : decode cX4_reckon 69 = .ok (.aload_n 0, 1) := by decide +kernel
theorem dX4_reckon_70 : decode cX4_reckon 70 = .ok (.aload_n 0, 1) := by decide +kernel
theorem dX4_reckon_71 : decode cX4_reckon 71 = .ok (.getfield 55, 3) := by decide +kernel
theorem dX4_reckon_74 : decode cX4_reckon 74 = .ok (.sipush 1000, 3) := by decide +kernel
theorem dX4_reckon_77 : decode cX4_reckon 77 = .ok (.iadd, 1) := by decide +kernel
theorem dX4_reckon_78 : decode cX4_reckon 78 = .ok (.iconst 1, 1) := by decide +kernel
theorem dX4_reckon_79 : decode cX4_reckon 79 = .ok (.isub, 1) := by decide +kernel
theorem dX4_reckon_80 : decode cX4_reckon 80 = .ok (.sipush 1000, 3) := by decide +kernel
theorem dX4_reckon_83 : decode cX4_reckon 83 = .ok (.irem, 1) := by decide +kernel
theorem dX4_reckon_84 : decode cX4_reckon 84 = .ok (.putfield 55, 3) := by decide +kernel
theorem dX4_reckon_87 : decode cX4_reckon 87 = .ok (.goto 48, 3) := by decide +kernel
theorem dX4_reckon_90 : decode cX4_reckon 90 = .ok (.aload_n 0, 1) := by decide +kernel
theorem dX4_reckon_91 : decode cX4_reckon 91 = .ok (.aload_n 3, 1) := by decide +kernel
theorem dX4_reckon_92 : decode cX4_reckon 92 = .ok (.iload_n 2, 1) := by decide +kernel
theorem dX4_reckon_93 : decode cX4_reckon 93 = .ok (.invokevirtual 58, 3) := by decide +kernel
theorem dX4_reckon_96 : decode cX4_reckon 96 = .ok (.putfield 55, 3) := by decide +kernel
theorem dX4_reckon_99 : decode cX4_reckon 99 = .ok (.goto 36, 3) := by decide +kernel
theorem dX4_reckon_102 : decode cX4_reckon 102 = .ok (.aload_n 3, 1) := by decide +kernel
theorem dX4_reckon_103 : decode cX4_reckon 103 = .ok (.iload_n 2, 1) := by decide +kernel
theorem dX4_reckon_104 : decode cX4_reckon 104 = .ok (.aload_n 0, 1) := by decide +kernel
theorem dX4_reckon_105 : decode cX4_reckon 105 = .ok (.getfield 55, 3) := by decide +kernel
theorem dX4_reckon_108 : decode cX4_reckon 108 = .ok (.invokevirtual 63, 3) := by decide +kernel
theorem dX4_reckon_111 : decode cX4_reckon 111 = .ok (.goto 24, 3) := by decide +kernel
theorem dX4_reckon_114 : decode cX4_reckon 114 = .ok (.aload_n 0, 1) := by decide +kernel
theorem dX4_reckon_115 : decode cX4_reckon 115 = .ok (.aload_n 0, 1) := by decide +kernel
theorem dX4_reckon_116 : decode cX4_reckon 116 = .ok (.getfield 55, 3) := by decide +kernel
theorem dX4_reckon_119 : decode cX4_reckon 119 = .ok (.aload_n 3, 1) := by decide +kernel
theorem dX4_reckon_120 : decode cX4_reckon 120 = .ok (.iload_n 2, 1) := by decide +kernel
theorem dX4_reckon_121 : decode cX4_reckon 121 = .ok (.invokevirtual 58, 3) := by decide +kernel
theorem dX4_reckon_124 : decode cX4_reckon 124 = .ok (.iadd, 1) := by decide +kernel
theorem dX4_reckon_125 : decode cX4_reckon 125 = .ok (.sipush 1000, 3) := by decide +kernel
theorem dX4_reckon_128 : decode cX4_reckon 128 = .ok (.irem, 1) := by decide +kernel
theorem dX4_reckon_129 : decode cX4_reckon 129 = .ok (.putfield 55, 3) := by decide +kernel
theorem dX4_reckon_132 : decode cX4_reckon 132 = .ok (.goto 3, 3) := by decide +kernel
theorem dX4_reckon_135 : decode cX4_reckon 135 = .ok (.return_, 1) := by decide +kernel
theorem dX4_goingOn_0 : decode cX4_goingOn 0 = .ok (.aload_n 0, 1) := by decide +kernel
theorem dX4_goingOn_1 : decode cX4_goingOn 1 = .ok (.getfield 25, 3) := by decide +kernel
theorem dX4_goingOn_4 : decode cX4_goingOn 4 = .ok (.iload_n 1, 1) := by decide +kernel
theorem dX4_goingOn_5 : decode cX4_goingOn 5 = .ok (.invokestatic 67, 3) := by decide +kernel
theorem dX4_goingOn_8 : decode cX4_goingOn 8 = .ok (.iadd, 1) := by decide +kernel
theorem dX4_goingOn_9 : decode cX4_goingOn 9 = .ok (.istore_n 3, 1) := by decide +kernel
theorem dX4_goingOn_10 : decode cX4_goingOn 10 = .ok (.iload_n 1, 1) := by decide +kernel
theorem dX4_goingOn_11 : decode cX4_goingOn 11 = .ok (.lookupswitch 86 #[(99, 64), (104, 76), (106, 49), (114, 71), (122, 51)], 49) := by decide +kernel
theorem dX4_goingOn_60 : decode cX4_goingOn 60 = .ok (.iload_n 2, 1) := by decide +kernel
theorem dX4_goingOn_61 : decode cX4_goingOn 61 = .ok (.ireturn, 1) := by decide +kernel
theorem dX4_goingOn_62 : decode cX4_goingOn 62 = .ok (.aload_n 0, 1) := by decide +kernel
theorem dX4_goingOn_63 : decode cX4_goingOn 63 = .ok (.getfield 55, 3) := by decide +kernel
theorem dX4_goingOn_66 : decode cX4_goingOn 66 = .ok (.ifCond .ne 7, 3) := by decide +kernel
theorem dX4_goingOn_69 : decode cX4_goingOn 69 = .ok (.iload_n 2, 1) := by decide +kernel
theorem dX4_goingOn_70 : decode cX4_goingOn 70 = .ok (.goto 4, 3) := by decide +kernel
theorem dX4_goingOn_73 : decode cX4_goingOn 73 = .ok (.iload_n 3, 1) := by decide +kernel
theorem dX4_goingOn_74 : decode cX4_goingOn 74 = .ok (.ireturn, 1) := by decide +kernel
theorem dX4_goingOn_75 : decode cX4_goingOn 75 = .ok (.aload_n 0, 1) := by decide +kernel
theorem dX4_goingOn_76 : decode cX4_goingOn 76 = .ok (.iload_n 2, 1) := by decide +kernel
theorem dX4_goingOn_77 : decode cX4_goingOn 77 = .ok (.iload_n 3, 1) := by decide +kernel
theorem dX4_goingOn_78 : decode cX4_goingOn 78 = .ok (.invokevirtual 71, 3) := by decide +kernel
theorem dX4_goingOn_81 : decode cX4_goingOn 81 = .ok (.ireturn, 1) := by decide +kernel
theorem dX4_goingOn_82 : decode cX4_goingOn 82 = .ok (.aload_n 0, 1) := by decide +kernel
theorem dX4_goingOn_83 : decode cX4_goingOn 83 = .ok (.invokevirtual 75, 3) := by decide +kernel
theorem dX4_goingOn_86 : decode cX4_goingOn 86 = .ok (.ireturn, 1) := by decide +kernel
theorem dX4_goingOn_87 : decode cX4_goingOn 87 = .ok (.aload_n 0, 1) := by decide +kernel
theorem dX4_goingOn_88 : decode cX4_goingOn 88 = .ok (.iconst 1, 1) := by decide +kernel
theorem dX4_goingOn_89 : decode cX4_goingOn 89 = .ok (.putfield 35, 3) := by decide +kernel
theorem dX4_goingOn_92 : decode cX4_goingOn 92 = .ok (.aload_n 0, 1) := by decide +kernel
theorem dX4_goingOn_93 : decode cX4_goingOn 93 = .ok (.getfield 25, 3) := by decide +kernel
theorem dX4_goingOn_96 : decode cX4_goingOn 96 = .ok (.ireturn, 1) := by decide +kernel
theorem dX4_goingOn_97 : decode cX4_goingOn 97 = .ok (.iload_n 3, 1) := by decide +kernel
theorem dX4_goingOn_98 : decode cX4_goingOn 98 = .ok (.ireturn, 1) := by decide +kernel
theorem dX4_called_0 : decode cX4_called 0 = .ok (.aload_n 0, 1) := by decide +kernel
theorem dX4_called_1 : decode cX4_called 1 = .ok (.getfield 79, 3) := by decide +kernel
theorem dX4_called_4 : decode cX4_called 4 = .ok (.ifCond .lt 12, 3) := by decide +kernel
theorem dX4_called_7 : decode cX4_called 7 = .ok (.aload_n 0, 1) := by decide +kernel
theorem dX4_called_8 : decode cX4_called 8 = .ok (.getfield 79, 3) := by decide +kernel
theorem dX4_called_11 : decode cX4_called 11 = .ok (.bipush 6, 2) := by decide +kernel
theorem dX4_called_13 : decode cX4_called 13 = .ok (.if_icmp .lt 13, 3) := by decide +kernel
theorem dX4_called_16 : decode cX4_called 16 = .ok (.aload_n 0, 1) := by decide +kernel
theorem dX4_called_17 : decode cX4_called 17 = .ok (.iconst 1, 1) := by decide +kernel
theorem dX4_called_18 : decode cX4_called 18 = .ok (.putfield 35, 3) := by decide +kernel
theorem dX4_called_21 : decode cX4_called 21 = .ok (.aload_n 0, 1) := by decide +kernel
theorem dX4_called_22 : decode cX4_called 22 = .ok (.getfield 25, 3) := by decide +kernel
theorem dX4_called_25 : decode cX4_called 25 = .ok (.ireturn, 1) := by decide +kernel
theorem dX4_called_26 : decode cX4_called 26 = .ok (.aload_n 0, 1) := by decide +kernel
theorem dX4_called_27 : decode cX4_called 27 = .ok (.getfield 9, 3) := by decide +kernel
theorem dX4_called_30 : decode cX4_called 30 = .ok (.aload_n 0, 1) := by decide +kernel
theorem dX4_called_31 : decode cX4_called 31 = .ok (.getfield 79, 3) := by decide +kernel
theorem dX4_called_34 : decode cX4_called 34 = .ok (.iload_n 2, 1) := by decide +kernel
theorem dX4_called_35 : decode cX4_called 35 = .ok (.iastore, 1) := by decide +kernel
theorem dX4_called_36 : decode cX4_called 36 = .ok (.aload_n 0, 1) := by decide +kernel
theorem dX4_called_37 : decode cX4_called 37 = .ok (.getfield 15, 3) := by decide +kernel
theorem dX4_called_40 : decode cX4_called 40 = .ok (.aload_n 0, 1) := by decide +kernel
theorem dX4_called_41 : decode cX4_called 41 = .ok (.getfield 79, 3) := by decide +kernel
theorem dX4_called_44 : decode cX4_called 44 = .ok (.iconst (-1), 1) := by decide +kernel
theorem dX4_called_45 : decode cX4_called 45 = .ok (.iastore, 1) := by decide +kernel
theorem dX4_called_46 : decode cX4_called 46 = .ok (.aload_n 0, 1) := by decide +kernel
theorem dX4_called_47 : decode cX4_called 47 = .ok (.dup, 1) := by decide +kernel
theorem dX4_called_48 : decode cX4_called 48 = .ok (.getfield 79, 3) := by decide +kernel
theorem dX4_called_51 : decode cX4_called 51 = .ok (.iconst 1, 1) := by decide +kernel
theorem dX4_called_52 : decode cX4_called 52 = .ok (.iadd, 1) := by decide +kernel
theorem dX4_called_53 : decode cX4_called 53 = .ok (.putfield 79, 3) := by decide +kernel
theorem dX4_called_56 : decode cX4_called 56 = .ok (.iload_n 1, 1) := by decide +kernel
theorem dX4_called_57 : decode cX4_called 57 = .ok (.ireturn, 1) := by decide +kernel
theorem dX4_returned_0 : decode cX4_returned 0 = .ok (.aload_n 0, 1) := by decide +kernel
theorem dX4_returned_1 : decode cX4_returned 1 = .ok (.getfield 79, 3) := by decide +kernel
theorem dX4_returned_4 : decode cX4_returned 4 = .ok (.ifCond .le 12, 3) := by decide +kernel
theorem dX4_returned_7 : decode cX4_returned 7 = .ok (.aload_n 0, 1) := by decide +kernel
theorem dX4_returned_8 : decode cX4_returned 8 = .ok (.getfield 79, 3) := by decide +kernel
theorem dX4_returned_11 : decode cX4_returned 11 = .ok (.bipush 6, 2) := by decide +kernel
theorem dX4_returned_13 : decode cX4_returned 13 = .ok (.if_icmp .le 13, 3) := by decide +kernel
theorem dX4_returned_16 : decode cX4_returned 16 = .ok (.aload_n 0, 1) := by decide +kernel
theorem dX4_returned_17 : decode cX4_returned 17 = .ok (.iconst 1, 1) := by decide +kernel
theorem dX4_returned_18 : decode cX4_returned 18 = .ok (.putfield 35, 3) := by decide +kernel
theorem dX4_returned_21 : decode cX4_returned 21 = .ok (.aload_n 0, 1) := by decide +kernel
theorem dX4_returned_22 : decode cX4_returned 22 = .ok (.getfield 25, 3) := by decide +kernel
theorem dX4_returned_25 : decode cX4_returned 25 = .ok (.ireturn, 1) := by decide +kernel
theorem dX4_returned_26 : decode cX4_returned 26 = .ok (.aload_n 0, 1) := by decide +kernel
theorem dX4_returned_27 : decode cX4_returned 27 = .ok (.dup, 1) := by decide +kernel
theorem dX4_returned_28 : decode cX4_returned 28 = .ok (.getfield 79, 3) := by decide +kernel
theorem dX4_returned_31 : decode cX4_returned 31 = .ok (.iconst 1, 1) := by decide +kernel
theorem dX4_returned_32 : decode cX4_returned 32 = .ok (.isub, 1) := by decide +kernel
theorem dX4_returned_33 : decode cX4_returned 33 = .ok (.putfield 79, 3) := by decide +kernel
theorem dX4_returned_36 : decode cX4_returned 36 = .ok (.aload_n 0, 1) := by decide +kernel
theorem dX4_returned_37 : decode cX4_returned 37 = .ok (.getfield 9, 3) := by decide +kernel
theorem dX4_returned_40 : decode cX4_returned 40 = .ok (.aload_n 0, 1) := by decide +kernel
theorem dX4_returned_41 : decode cX4_returned 41 = .ok (.getfield 79, 3) := by decide +kernel
theorem dX4_returned_44 : decode cX4_returned 44 = .ok (.iaload, 1) := by decide +kernel
theorem dX4_returned_45 : decode cX4_returned 45 = .ok (.ireturn, 1) := by decide +kernel
theorem dX4_returnAt_0 : decode cX4_returnAt 0 = .ok (.iload_n 1, 1) := by decide +kernel
theorem dX4_returnAt_1 : decode cX4_returnAt 1 = .ok (.ifCond .lt 26, 3) := by decide +kernel
theorem dX4_returnAt_4 : decode cX4_returnAt 4 = .ok (.iload_n 1, 1) := by decide +kernel
theorem dX4_returnAt_5 : decode cX4_returnAt 5 = .ok (.aload_n 0, 1) := by decide +kernel
theorem dX4_returnAt_6 : decode cX4_returnAt 6 = .ok (.getfield 79, 3) := by decide +kernel
theorem dX4_returnAt_9 : decode cX4_returnAt 9 = .ok (.if_icmp .ge 18, 3) := by decide +kernel
theorem dX4_returnAt_12 : decode cX4_returnAt 12 = .ok (.iload_n 1, 1) := by decide +kernel
theorem dX4_returnAt_13 : decode cX4_returnAt 13 = .ok (.bipush 6, 2) := by decide +kernel
theorem dX4_returnAt_15 : decode cX4_returnAt 15 = .ok (.if_icmp .ge 12, 3) := by decide +kernel
theorem dX4_returnAt_18 : decode cX4_returnAt 18 = .ok (.aload_n 0, 1) := by decide +kernel
theorem dX4_returnAt_19 : decode cX4_returnAt 19 = .ok (.getfield 9, 3) := by decide +kernel
theorem dX4_returnAt_22 : decode cX4_returnAt 22 = .ok (.iload_n 1, 1) := by decide +kernel
theorem dX4_returnAt_23 : decode cX4_returnAt 23 = .ok (.iaload, 1) := by decide +kernel
theorem dX4_returnAt_24 : decode cX4_returnAt 24 = .ok (.goto 5, 3) := by decide +kernel
theorem dX4_returnAt_27 : decode cX4_returnAt 27 = .ok (.bipush (-4), 2) := by decide +kernel
theorem dX4_returnAt_29 : decode cX4_returnAt 29 = .ok (.ireturn, 1) := by decide +kernel
theorem dX4_holderAt_0 : decode cX4_holderAt 0 = .ok (.iload_n 1, 1) := by decide +kernel
theorem dX4_holderAt_1 : decode cX4_holderAt 1 = .ok (.ifCond .lt 26, 3) := by decide +kernel
theorem dX4_holderAt_4 : decode cX4_holderAt 4 = .ok (.iload_n 1, 1) := by decide +kernel
theorem dX4_holderAt_5 : decode cX4_holderAt 5 = .ok (.aload_n 0, 1) := by decide +kernel
theorem dX4_holderAt_6 : decode cX4_holderAt 6 = .ok (.getfield 79, 3) := by decide +kernel
theorem dX4_holderAt_9 : decode cX4_holderAt 9 = .ok (.if_icmp .ge 18, 3) := by decide +kernel
theorem dX4_holderAt_12 : decode cX4_holderAt 12 = .ok (.iload_n 1, 1) := by decide +kernel
theorem dX4_holderAt_13 : decode cX4_holderAt 13 = .ok (.bipush 6, 2) := by decide +kernel
theorem dX4_holderAt_15 : decode cX4_holderAt 15 = .ok (.if_icmp .ge 12, 3) := by decide +kernel
theorem dX4_holderAt_18 : decode cX4_holderAt 18 = .ok (.aload_n 0, 1) := by decide +kernel
theorem dX4_holderAt_19 : decode cX4_holderAt 19 = .ok (.getfield 15, 3) := by decide +kernel
theorem dX4_holderAt_22 : decode cX4_holderAt 22 = .ok (.iload_n 1, 1) := by decide +kernel
theorem dX4_holderAt_23 : decode cX4_holderAt 23 = .ok (.iaload, 1) := by decide +kernel
theorem dX4_holderAt_24 : decode cX4_holderAt 24 = .ok (.goto 4, 3) := by decide +kernel
theorem dX4_holderAt_27 : decode cX4_holderAt 27 = .ok (.iconst (-1), 1) := by decide +kernel
theorem dX4_holderAt_28 : decode cX4_holderAt 28 = .ok (.ireturn, 1) := by decide +kernel
theorem dX4_topHolder_0 : decode cX4_topHolder 0 = .ok (.aload_n 0, 1) := by decide +kernel
theorem dX4_topHolder_1 : decode cX4_topHolder 1 = .ok (.aload_n 0, 1) := by decide +kernel
theorem dX4_topHolder_2 : decode cX4_topHolder 2 = .ok (.getfield 79, 3) := by decide +kernel
theorem dX4_topHolder_5 : decode cX4_topHolder 5 = .ok (.iconst 1, 1) := by decide +kernel
theorem dX4_topHolder_6 : decode cX4_topHolder 6 = .ok (.isub, 1) := by decide +kernel
theorem dX4_topHolder_7 : decode cX4_topHolder 7 = .ok (.invokevirtual 82, 3) := by decide +kernel
theorem dX4_topHolder_10 : decode cX4_topHolder 10 = .ok (.ireturn, 1) := by decide +kernel
theorem dX4_holdTop_0 : decode cX4_holdTop 0 = .ok (.aload_n 0, 1) := by decide +kernel
theorem dX4_holdTop_1 : decode cX4_holdTop 1 = .ok (.getfield 79, 3) := by decide +kernel
theorem dX4_holdTop_4 : decode cX4_holdTop 4 = .ok (.iconst 1, 1) := by decide +kernel
theorem dX4_holdTop_5 : decode cX4_holdTop 5 = .ok (.isub, 1) := by decide +kernel
theorem dX4_holdTop_6 : decode cX4_holdTop 6 = .ok (.istore_n 2, 1) := by decide +kernel
theorem dX4_holdTop_7 : decode cX4_holdTop 7 = .ok (.iload_n 2, 1) := by decide +kernel
theorem dX4_holdTop_8 : decode cX4_holdTop 8 = .ok (.ifCond .lt 19, 3) := by decide +kernel
theorem dX4_holdTop_11 : decode cX4_holdTop 11 = .ok (.iload_n 2, 1) := by decide +kernel
theorem dX4_holdTop_12 : decode cX4_holdTop 12 = .ok (.bipush 6, 2) := by decide +kernel
theorem dX4_holdTop_14 : decode cX4_holdTop 14 = .ok (.if_icmp .ge 13, 3) := by decide +kernel
theorem dX4_holdTop_17 : decode cX4_holdTop 17 = .ok (.aload_n 0, 1) := by decide +kernel
theorem dX4_holdTop_18 : decode cX4_holdTop 18 = .ok (.getfield 15, 3) := by decide +kernel
theorem dX4_holdTop_21 : decode cX4_holdTop 21 = .ok (.iload_n 2, 1) := by decide +kernel
theorem dX4_holdTop_22 : decode cX4_holdTop 22 = .ok (.iaload, 1) := by decide +kernel
theorem dX4_holdTop_23 : decode cX4_holdTop 23 = .ok (.iconst (-1), 1) := by decide +kernel
theorem dX4_holdTop_24 : decode cX4_holdTop 24 = .ok (.if_icmp .eq 5, 3) := by decide +kernel
theorem dX4_holdTop_27 : decode cX4_holdTop 27 = .ok (.iconst 0, 1) := by decide +kernel
theorem dX4_holdTop_28 : decode cX4_holdTop 28 = .ok (.ireturn, 1) := by decide +kernel
theorem dX4_holdTop_29 : decode cX4_holdTop 29 = .ok (.aload_n 0, 1) := by decide +kernel
theorem dX4_holdTop_30 : decode cX4_holdTop 30 = .ok (.getfield 15, 3) := by decide +kernel
theorem dX4_holdTop_33 : decode cX4_holdTop 33 = .ok (.iload_n 2, 1) := by decide +kernel
theorem dX4_holdTop_34 : decode cX4_holdTop 34 = .ok (.iload_n 1, 1) := by decide +kernel
theorem dX4_holdTop_35 : decode cX4_holdTop 35 = .ok (.iastore, 1) := by decide +kernel
theorem dX4_holdTop_36 : decode cX4_holdTop 36 = .ok (.iconst 1, 1) := by decide +kernel
theorem dX4_holdTop_37 : decode cX4_holdTop 37 = .ok (.ireturn, 1) := by decide +kernel
theorem dX4_goTo_0 : decode cX4_goTo 0 = .ok (.aload_n 0, 1) := by decide +kernel
theorem dX4_goTo_1 : decode cX4_goTo 1 = .ok (.iload_n 1, 1) := by decide +kernel
theorem dX4_goTo_2 : decode cX4_goTo 2 = .ok (.putfield 25, 3) := by decide +kernel
theorem dX4_goTo_5 : decode cX4_goTo 5 = .ok (.aload_n 0, 1) := by decide +kernel
theorem dX4_goTo_6 : decode cX4_goTo 6 = .ok (.iload_n 2, 1) := by decide +kernel
theorem dX4_goTo_7 : decode cX4_goTo 7 = .ok (.putfield 55, 3) := by decide +kernel
theorem dX4_goTo_10 : decode cX4_goTo 10 = .ok (.aload_n 0, 1) := by decide +kernel
theorem dX4_goTo_11 : decode cX4_goTo 11 = .ok (.iconst 0, 1) := by decide +kernel
theorem dX4_goTo_12 : decode cX4_goTo 12 = .ok (.putfield 79, 3) := by decide +kernel
theorem dX4_goTo_15 : decode cX4_goTo 15 = .ok (.aload_n 0, 1) := by decide +kernel
theorem dX4_goTo_16 : decode cX4_goTo 16 = .ok (.iconst 0, 1) := by decide +kernel
theorem dX4_goTo_17 : decode cX4_goTo 17 = .ok (.putfield 35, 3) := by decide +kernel
theorem dX4_goTo_20 : decode cX4_goTo 20 = .ok (.return_, 1) := by decide +kernel
theorem dX4_tell_0 : decode cX4_tell 0 = .ok (.iload_n 1, 1) := by decide +kernel
theorem dX4_tell_1 : decode cX4_tell 1 = .ok (.tableswitch 59 0 3 #[31, 36, 41, 46], 31) := by decide +kernel
theorem dX4_tell_32 : decode cX4_tell 32 = .ok (.aload_n 0, 1) := by decide +kernel
theorem dX4_tell_33 : decode cX4_tell 33 = .ok (.getfield 25, 3) := by decide +kernel
theorem dX4_tell_36 : decode cX4_tell 36 = .ok (.ireturn, 1) := by decide +kernel
theorem dX4_tell_37 : decode cX4_tell 37 = .ok (.aload_n 0, 1) := by decide +kernel
theorem dX4_tell_38 : decode cX4_tell 38 = .ok (.getfield 55, 3) := by decide +kernel
theorem dX4_tell_41 : decode cX4_tell 41 = .ok (.ireturn, 1) := by decide +kernel
theorem dX4_tell_42 : decode cX4_tell 42 = .ok (.aload_n 0, 1) := by decide +kernel
theorem dX4_tell_43 : decode cX4_tell 43 = .ok (.getfield 79, 3) := by decide +kernel
theorem dX4_tell_46 : decode cX4_tell 46 = .ok (.ireturn, 1) := by decide +kernel
theorem dX4_tell_47 : decode cX4_tell 47 = .ok (.aload_n 0, 1) := by decide +kernel
theorem dX4_tell_48 : decode cX4_tell 48 = .ok (.getfield 35, 3) := by decide +kernel
theorem dX4_tell_51 : decode cX4_tell 51 = .ok (.ifCond .eq 7, 3) := by decide +kernel
theorem dX4_tell_54 : decode cX4_tell 54 = .ok (.iconst 1, 1) := by decide +kernel
theorem dX4_tell_55 : decode cX4_tell 55 = .ok (.goto 4, 3) := by decide +kernel
theorem dX4_tell_58 : decode cX4_tell 58 = .ok (.iconst 0, 1) := by decide +kernel
theorem dX4_tell_59 : decode cX4_tell 59 = .ok (.ireturn, 1) := by decide +kernel
theorem dX4_tell_60 : decode cX4_tell 60 = .ok (.iconst (-1), 1) := by decide +kernel
theorem dX4_tell_61 : decode cX4_tell 61 = .ok (.ireturn, 1) := by decide +kernel
theorem dX4_clear_0 : decode cX4_clear 0 = .ok (.aload_n 0, 1) := by decide +kernel
theorem dX4_clear_1 : decode cX4_clear 1 = .ok (.iconst 0, 1) := by decide +kernel
theorem dX4_clear_2 : decode cX4_clear 2 = .ok (.iconst 0, 1) := by decide +kernel
theorem dX4_clear_3 : decode cX4_clear 3 = .ok (.invokevirtual 85, 3) := by decide +kernel
theorem dX4_clear_6 : decode cX4_clear 6 = .ok (.aload_n 0, 1) := by decide +kernel
theorem dX4_clear_7 : decode cX4_clear 7 = .ok (.iconst 0, 1) := by decide +kernel
theorem dX4_clear_8 : decode cX4_clear 8 = .ok (.putfield 88, 3) := by decide +kernel
theorem dX4_clear_11 : decode cX4_clear 11 = .ok (.aload_n 0, 1) := by decide +kernel
theorem dX4_clear_12 : decode cX4_clear 12 = .ok (.getfield 21, 3) := by decide +kernel
theorem dX4_clear_15 : decode cX4_clear 15 = .ok (.invokevirtual 91, 3) := by decide +kernel
theorem dX4_clear_18 : decode cX4_clear 18 = .ok (.return_, 1) := by decide +kernel
theorem dX4_copyFrom_0 : decode cX4_copyFrom 0 = .ok (.aload_n 1, 1) := by decide +kernel
theorem dX4_copyFrom_1 : decode cX4_copyFrom 1 = .ok (.getfield 9, 3) := by decide +kernel
theorem dX4_copyFrom_4 : decode cX4_copyFrom 4 = .ok (.iconst 0, 1) := by decide +kernel
theorem dX4_copyFrom_5 : decode cX4_copyFrom 5 = .ok (.aload_n 0, 1) := by decide +kernel
theorem dX4_copyFrom_6 : decode cX4_copyFrom 6 = .ok (.getfield 9, 3) := by decide +kernel
theorem dX4_copyFrom_9 : decode cX4_copyFrom 9 = .ok (.iconst 0, 1) := by decide +kernel
theorem dX4_copyFrom_10 : decode cX4_copyFrom 10 = .ok (.bipush 6, 2) := by decide +kernel
theorem dX4_copyFrom_12 : decode cX4_copyFrom 12 = .ok (.invokestatic 94, 3) := by decide +kernel
theorem dX4_copyFrom_15 : decode cX4_copyFrom 15 = .ok (.aload_n 1, 1) := by decide +kernel
theorem dX4_copyFrom_16 : decode cX4_copyFrom 16 = .ok (.getfield 15, 3) := by decide +kernel
theorem dX4_copyFrom_19 : decode cX4_copyFrom 19 = .ok (.iconst 0, 1) := by decide +kernel
theorem dX4_copyFrom_20 : decode cX4_copyFrom 20 = .ok (.aload_n 0, 1) := by decide +kernel
theorem dX4_copyFrom_21 : decode cX4_copyFrom 21 = .ok (.getfield 15, 3) := by decide +kernel
theorem dX4_copyFrom_24 : decode cX4_copyFrom 24 = .ok (.iconst 0, 1) := by decide +kernel
theorem dX4_copyFrom_25 : decode cX4_copyFrom 25 = .ok (.bipush 6, 2) := by decide +kernel
theorem dX4_copyFrom_27 : decode cX4_copyFrom 27 = .ok (.invokestatic 94, 3) := by decide +kernel
theorem dX4_copyFrom_30 : decode cX4_copyFrom 30 = .ok (.aload_n 0, 1) := by decide +kernel
theorem dX4_copyFrom_31 : decode cX4_copyFrom 31 = .ok (.getfield 21, 3) := by decide +kernel
theorem dX4_copyFrom_34 : decode cX4_copyFrom 34 = .ok (.aload_n 1, 1) := by decide +kernel
theorem dX4_copyFrom_35 : decode cX4_copyFrom 35 = .ok (.getfield 21, 3) := by decide +kernel
theorem dX4_copyFrom_38 : decode cX4_copyFrom 38 = .ok (.invokevirtual 100, 3) := by decide +kernel
theorem dX4_copyFrom_41 : decode cX4_copyFrom 41 = .ok (.aload_n 0, 1) := by decide +kernel
theorem dX4_copyFrom_42 : decode cX4_copyFrom 42 = .ok (.aload_n 1, 1) := by decide +kernel
theorem dX4_copyFrom_43 : decode cX4_copyFrom 43 = .ok (.getfield 79, 3) := by decide +kernel
theorem dX4_copyFrom_46 : decode cX4_copyFrom 46 = .ok (.putfield 79, 3) := by decide +kernel
theorem dX4_copyFrom_49 : decode cX4_copyFrom 49 = .ok (.aload_n 0, 1) := by decide +kernel
theorem dX4_copyFrom_50 : decode cX4_copyFrom 50 = .ok (.aload_n 1, 1) := by decide +kernel
theorem dX4_copyFrom_51 : decode cX4_copyFrom 51 = .ok (.getfield 25, 3) := by decide +kernel
theorem dX4_copyFrom_54 : decode cX4_copyFrom 54 = .ok (.putfield 25, 3) := by decide +kernel
theorem dX4_copyFrom_57 : decode cX4_copyFrom 57 = .ok (.aload_n 0, 1) := by decide +kernel
theorem dX4_copyFrom_58 : decode cX4_copyFrom 58 = .ok (.aload_n 1, 1) := by decide +kernel
theorem dX4_copyFrom_59 : decode cX4_copyFrom 59 = .ok (.getfield 55, 3) := by decide +kernel
theorem dX4_copyFrom_62 : decode cX4_copyFrom 62 = .ok (.putfield 55, 3) := by decide +kernel
theorem dX4_copyFrom_65 : decode cX4_copyFrom 65 = .ok (.aload_n 0, 1) := by decide +kernel
theorem dX4_copyFrom_66 : decode cX4_copyFrom 66 = .ok (.aload_n 1, 1) := by decide +kernel
theorem dX4_copyFrom_67 : decode cX4_copyFrom 67 = .ok (.getfield 35, 3) := by decide +kernel
theorem dX4_copyFrom_70 : decode cX4_copyFrom 70 = .ok (.putfield 35, 3) := by decide +kernel
theorem dX4_copyFrom_73 : decode cX4_copyFrom 73 = .ok (.aload_n 0, 1) := by decide +kernel
theorem dX4_copyFrom_74 : decode cX4_copyFrom 74 = .ok (.aload_n 1, 1) := by decide +kernel
theorem dX4_copyFrom_75 : decode cX4_copyFrom 75 = .ok (.getfield 88, 3) := by decide +kernel
theorem dX4_copyFrom_78 : decode cX4_copyFrom 78 = .ok (.putfield 88, 3) := by decide +kernel
theorem dX4_copyFrom_81 : decode cX4_copyFrom 81 = .ok (.return_, 1) := by decide +kernel
theorem dX5_init_0 : decode cX5_init 0 = .ok (.aload_n 0, 1) := by decide +kernel
theorem dX5_init_1 : decode cX5_init 1 = .ok (.invokespecial 3, 3) := by decide +kernel
theorem dX5_init_4 : decode cX5_init 4 = .ok (.aload_n 0, 1) := by decide +kernel
theorem dX5_init_5 : decode cX5_init 5 = .ok (.iconst 4, 1) := by decide +kernel
theorem dX5_init_6 : decode cX5_init 6 = .ok (.newarray .int, 2) := by decide +kernel
theorem dX5_init_8 : decode cX5_init 8 = .ok (.putfield 9, 3) := by decide +kernel
theorem dX5_init_11 : decode cX5_init 11 = .ok (.aload_n 0, 1) := by decide +kernel
theorem dX5_init_12 : decode cX5_init 12 = .ok (.iconst 4, 1) := by decide +kernel
theorem dX5_init_13 : decode cX5_init 13 = .ok (.newarray .int, 2) := by decide +kernel
theorem dX5_init_15 : decode cX5_init 15 = .ok (.putfield 15, 3) := by decide +kernel
theorem dX5_init_18 : decode cX5_init 18 = .ok (.aload_n 0, 1) := by decide +kernel
theorem dX5_init_19 : decode cX5_init 19 = .ok (.iconst 4, 1) := by decide +kernel
theorem dX5_init_20 : decode cX5_init 20 = .ok (.newarray .int, 2) := by decide +kernel
theorem dX5_init_22 : decode cX5_init 22 = .ok (.putfield 18, 3) := by decide +kernel
theorem dX5_init_25 : decode cX5_init 25 = .ok (.return_, 1) := by decide +kernel
theorem dX5_enter_0 : decode cX5_enter 0 = .ok (.aload_n 0, 1) := by decide +kernel
theorem dX5_enter_1 : decode cX5_enter 1 = .ok (.getfield 21, 3) := by decide +kernel
theorem dX5_enter_4 : decode cX5_enter 4 = .ok (.iconst 4, 1) := by decide +kernel
theorem dX5_enter_5 : decode cX5_enter 5 = .ok (.if_icmp .lt 7, 3) := by decide +kernel
theorem dX5_enter_8 : decode cX5_enter 8 = .ok (.aload_n 0, 1) := by decide +kernel
theorem dX5_enter_9 : decode cX5_enter 9 = .ok (.invokevirtual 25, 3) := by decide +kernel
theorem dX5_enter_12 : decode cX5_enter 12 = .ok (.aload_n 0, 1) := by decide +kernel
theorem dX5_enter_13 : decode cX5_enter 13 = .ok (.getfield 21, 3) := by decide +kernel
theorem dX5_enter_16 : decode cX5_enter 16 = .ok (.ifCond .lt 51, 3) := by decide +kernel
theorem dX5_enter_19 : decode cX5_enter 19 = .ok (.aload_n 0, 1) := by decide +kernel
theorem dX5_enter_20 : decode cX5_enter 20 = .ok (.getfield 21, 3) := by decide +kernel
theorem dX5_enter_23 : decode cX5_enter 23 = .ok (.iconst 4, 1) := by decide +kernel
theorem dX5_enter_24 : decode cX5_enter 24 = .ok (.if_icmp .ge 43, 3) := by decide +kernel
theorem dX5_enter_27 : decode cX5_enter 27 = .ok (.aload_n 0, 1) := by decide +kernel
theorem dX5_enter_28 : decode cX5_enter 28 = .ok (.getfield 9, 3) := by decide +kernel
theorem dX5_enter_31 : decode cX5_enter 31 = .ok (.aload_n 0, 1) := by decide +kernel
theorem dX5_enter_32 : decode cX5_enter 32 = .ok (.getfield 21, 3) := by decide +kernel
theorem dX5_enter_35 : decode cX5_enter 35 = .ok (.iload_n 1, 1) := by decide +kernel
theorem dX5_enter_36 : decode cX5_enter 36 = .ok (.iastore, 1) := by decide +kernel
theorem dX5_enter_37 : decode cX5_enter 37 = .ok (.aload_n 0, 1) := by decide +kernel
theorem dX5_enter_38 : decode cX5_enter 38 = .ok (.getfield 15, 3) := by decide +kernel
theorem dX5_enter_41 : decode cX5_enter 41 = .ok (.aload_n 0, 1) := by decide +kernel
theorem dX5_enter_42 : decode cX5_enter 42 = .ok (.getfield 21, 3) := by decide +kernel
theorem dX5_enter_45 : decode cX5_enter 45 = .ok (.iload_n 2, 1) := by decide +kernel
theorem dX5_enter_46 : decode cX5_enter 46 = .ok (.iastore, 1) := by decide +kernel
theorem dX5_enter_47 : decode cX5_enter 47 = .ok (.aload_n 0, 1) := by decide +kernel
theorem dX5_enter_48 : decode cX5_enter 48 = .ok (.getfield 18, 3) := by decide +kernel
theorem dX5_enter_51 : decode cX5_enter 51 = .ok (.aload_n 0, 1) := by decide +kernel
theorem dX5_enter_52 : decode cX5_enter 52 = .ok (.getfield 21, 3) := by decide +kernel
theorem dX5_enter_55 : decode cX5_enter 55 = .ok (.iload_n 3, 1) := by decide +kernel
theorem dX5_enter_56 : decode cX5_enter 56 = .ok (.iastore, 1) := by decide +kernel
theorem dX5_enter_57 : decode cX5_enter 57 = .ok (.aload_n 0, 1) := by decide +kernel
theorem dX5_enter_58 : decode cX5_enter 58 = .ok (.dup, 1) := by decide +kernel
theorem dX5_enter_59 : decode cX5_enter 59 = .ok (.getfield 21, 3) := by decide +kernel
theorem dX5_enter_62 : decode cX5_enter 62 = .ok (.iconst 1, 1) := by decide +kernel
theorem dX5_enter_63 : decode cX5_enter 63 = .ok (.iadd, 1) := by decide +kernel
theorem dX5_enter_64 : decode cX5_enter 64 = .ok (.putfield 21, 3) := by decide +kernel
theorem dX5_enter_67 : decode cX5_enter 67 = .ok (.return_, 1) := by decide +kernel
theorem dX5_loseOldest_0 : decode cX5_loseOldest 0 = .ok (.iconst 1, 1) := by decide +kernel
theorem dX5_loseOldest_1 : decode cX5_loseOldest 1 = .ok (.istore_n 1, 1) := by decide +kernel
theorem dX5_loseOldest_2 : decode cX5_loseOldest 2 = .ok (.iload_n 1, 1) := by decide +kernel
theorem dX5_loseOldest_3 : decode cX5_loseOldest 3 = .ok (.iconst 4, 1) := by decide +kernel
theorem dX5_loseOldest_4 : decode cX5_loseOldest 4 = .ok (.if_icmp .ge 51, 3) := by decide +kernel
theorem dX5_loseOldest_7 : decode cX5_loseOldest 7 = .ok (.aload_n 0, 1) := by decide +kernel
theorem dX5_loseOldest_8 : decode cX5_loseOldest 8 = .ok (.getfield 9, 3) := by decide +kernel
theorem dX5_loseOldest_11 : decode cX5_loseOldest 11 = .ok (.iload_n 1, 1) := by decide +kernel
theorem dX5_loseOldest_12 : decode cX5_loseOldest 12 = .ok (.iconst 1, 1) := by decide +kernel
theorem dX5_loseOldest_13 : decode cX5_loseOldest 13 = .ok (.isub, 1) := by decide +kernel
theorem dX5_loseOldest_14 : decode cX5_loseOldest 14 = .ok (.aload_n 0, 1) := by decide +kernel
theorem dX5_loseOldest_15 : decode cX5_loseOldest 15 = .ok (.getfield 9, 3) := by decide +kernel
theorem dX5_loseOldest_18 : decode cX5_loseOldest 18 = .ok (.iload_n 1, 1) := by decide +kernel
theorem dX5_loseOldest_19 : decode cX5_loseOldest 19 = .ok (.iaload, 1) := by decide +kernel
theorem dX5_loseOldest_20 : decode cX5_loseOldest 20 = .ok (.iastore, 1) := by decide +kernel
theorem dX5_loseOldest_21 : decode cX5_loseOldest 21 = .ok (.aload_n 0, 1) := by decide +kernel
theorem dX5_loseOldest_22 : decode cX5_loseOldest 22 = .ok (.getfield 15, 3) := by decide +kernel
theorem dX5_loseOldest_25 : decode cX5_loseOldest 25 = .ok (.iload_n 1, 1) := by decide +kernel
theorem dX5_loseOldest_26 : decode cX5_loseOldest 26 = .ok (.iconst 1, 1) := by decide +kernel
theorem dX5_loseOldest_27 : decode cX5_loseOldest 27 = .ok (.isub, 1) := by decide +kernel
theorem dX5_loseOldest_28 : decode cX5_loseOldest 28 = .ok (.aload_n 0, 1) := by decide +kernel
theorem dX5_loseOldest_29 : decode cX5_loseOldest 29 = .ok (.getfield 15, 3) := by decide +kernel
theorem dX5_loseOldest_32 : decode cX5_loseOldest 32 = .ok (.iload_n 1, 1) := by decide +kernel
theorem dX5_loseOldest_33 : decode cX5_loseOldest 33 = .ok (.iaload, 1) := by decide +kernel
theorem dX5_loseOldest_34 : decode cX5_loseOldest 34 = .ok (.iastore, 1) := by decide +kernel
theorem dX5_loseOldest_35 : decode cX5_loseOldest 35 = .ok (.aload_n 0, 1) := by decide +kernel
theorem dX5_loseOldest_36 : decode cX5_loseOldest 36 = .ok (.getfield 18, 3) := by decide +kernel
theorem dX5_loseOldest_39 : decode cX5_loseOldest 39 = .ok (.iload_n 1, 1) := by decide +kernel
theorem dX5_loseOldest_40 : decode cX5_loseOldest 40 = .ok (.iconst 1, 1) := by decide +kernel
theorem dX5_loseOldest_41 : decode cX5_loseOldest 41 = .ok (.isub, 1) := by decide +kernel
theorem dX5_loseOldest_42 : decode cX5_loseOldest 42 = .ok (.aload_n 0, 1) := by decide +kernel
theorem dX5_loseOldest_43 : decode cX5_loseOldest 43 = .ok (.getfield 18, 3) := by decide +kernel
theorem dX5_loseOldest_46 : decode cX5_loseOldest 46 = .ok (.iload_n 1, 1) := by decide +kernel
theorem dX5_loseOldest_47 : decode cX5_loseOldest 47 = .ok (.iaload, 1) := by decide +kernel
theorem dX5_loseOldest_48 : decode cX5_loseOldest 48 = .ok (.iastore, 1) := by decide +kernel
theorem dX5_loseOldest_49 : decode cX5_loseOldest 49 = .ok (.iinc 1 1, 3) := by decide +kernel
theorem dX5_loseOldest_52 : decode cX5_loseOldest 52 = .ok (.goto (-50), 3) := by decide +kernel
theorem dX5_loseOldest_55 : decode cX5_loseOldest 55 = .ok (.aload_n 0, 1) := by decide +kernel
theorem dX5_loseOldest_56 : decode cX5_loseOldest 56 = .ok (.iconst 3, 1) := by decide +kernel
theorem dX5_loseOldest_57 : decode cX5_loseOldest 57 = .ok (.putfield 21, 3) := by decide +kernel
theorem dX5_loseOldest_60 : decode cX5_loseOldest 60 = .ok (.aload_n 0, 1) := by decide +kernel
theorem dX5_loseOldest_61 : decode cX5_loseOldest 61 = .ok (.dup, 1) := by decide +kernel
theorem dX5_loseOldest_62 : decode cX5_loseOldest 62 = .ok (.getfield 28, 3) := by decide +kernel
theorem dX5_loseOldest_65 : decode cX5_loseOldest 65 = .ok (.iconst 1, 1) := by decide +kernel
theorem dX5_loseOldest_66 : decode cX5_loseOldest 66 = .ok (.iadd, 1) := by decide +kernel
theorem dX5_loseOldest_67 : decode cX5_loseOldest 67 = .ok (.putfield 28, 3) := by decide +kernel
theorem dX5_loseOldest_70 : decode cX5_loseOldest 70 = .ok (.return_, 1) := by decide +kernel
theorem dX5_tell_0 : decode cX5_tell 0 = .ok (.iload_n 1, 1) := by decide +kernel
theorem dX5_tell_1 : decode cX5_tell 1 = .ok (.ifCond .lt 16, 3) := by decide +kernel
theorem dX5_tell_4 : decode cX5_tell 4 = .ok (.iload_n 1, 1) := by decide +kernel
theorem dX5_tell_5 : decode cX5_tell 5 = .ok (.aload_n 0, 1) := by decide +kernel
theorem dX5_tell_6 : decode cX5_tell 6 = .ok (.getfield 21, 3) := by decide +kernel
theorem dX5_tell_9 : decode cX5_tell 9 = .ok (.if_icmp .ge 8, 3) := by decide +kernel
theorem dX5_tell_12 : decode cX5_tell 12 = .ok (.iload_n 1, 1) := by decide +kernel
theorem dX5_tell_13 : decode cX5_tell 13 = .ok (.iconst 4, 1) := by decide +kernel
theorem dX5_tell_14 : decode cX5_tell 14 = .ok (.if_icmp .lt 6, 3) := by decide +kernel
theorem dX5_tell_17 : decode cX5_tell 17 = .ok (.bipush (-4), 2) := by decide +kernel
theorem dX5_tell_19 : decode cX5_tell 19 = .ok (.ireturn, 1) := by decide +kernel
theorem dX5_tell_20 : decode cX5_tell 20 = .ok (.iload_n 2, 1) := by decide +kernel
theorem dX5_tell_21 : decode cX5_tell 21 = .ok (.tableswitch 48 0 2 #[27, 34, 41], 27) := by decide +kernel
theorem dX5_tell_48 : decode cX5_tell 48 = .ok (.aload_n 0, 1) := by decide +kernel
theorem dX5_tell_49 : decode cX5_tell 49 = .ok (.getfield 9, 3) := by decide +kernel
theorem dX5_tell_52 : decode cX5_tell 52 = .ok (.iload_n 1, 1) := by decide +kernel
theorem dX5_tell_53 : decode cX5_tell 53 = .ok (.iaload, 1) := by decide +kernel
theorem dX5_tell_54 : decode cX5_tell 54 = .ok (.ireturn, 1) := by decide +kernel
theorem dX5_tell_55 : decode cX5_tell 55 = .ok (.aload_n 0, 1) := by decide +kernel
theorem dX5_tell_56 : decode cX5_tell 56 = .ok (.getfield 15, 3) := by decide +kernel
theorem dX5_tell_59 : decode cX5_tell 59 = .ok (.iload_n 1, 1) := by decide +kernel
theorem dX5_tell_60 : decode cX5_tell 60 = .ok (.iaload, 1) := by decide +kernel
theorem dX5_tell_61 : decode cX5_tell 61 = .ok (.ireturn, 1) := by decide +kernel
theorem dX5_tell_62 : decode cX5_tell 62 = .ok (.aload_n 0, 1) := by decide +kernel
theorem dX5_tell_63 : decode cX5_tell 63 = .ok (.getfield 18, 3) := by decide +kernel
theorem dX5_tell_66 : decode cX5_tell 66 = .ok (.iload_n 1, 1) := by decide +kernel
theorem dX5_tell_67 : decode cX5_tell 67 = .ok (.iaload, 1) := by decide +kernel
theorem dX5_tell_68 : decode cX5_tell 68 = .ok (.ireturn, 1) := by decide +kernel
theorem dX5_tell_69 : decode cX5_tell 69 = .ok (.iconst (-1), 1) := by decide +kernel
theorem dX5_tell_70 : decode cX5_tell 70 = .ok (.ireturn, 1) := by decide +kernel
theorem dX5_clear_0 : decode cX5_clear 0 = .ok (.aload_n 0, 1) := by decide +kernel
theorem dX5_clear_1 : decode cX5_clear 1 = .ok (.iconst 0, 1) := by decide +kernel
theorem dX5_clear_2 : decode cX5_clear 2 = .ok (.putfield 21, 3) := by decide +kernel
theorem dX5_clear_5 : decode cX5_clear 5 = .ok (.aload_n 0, 1) := by decide +kernel
theorem dX5_clear_6 : decode cX5_clear 6 = .ok (.iconst 0, 1) := by decide +kernel
theorem dX5_clear_7 : decode cX5_clear 7 = .ok (.putfield 28, 3) := by decide +kernel
theorem dX5_clear_10 : decode cX5_clear 10 = .ok (.return_, 1) := by decide +kernel
theorem dX5_copyFrom_0 : decode cX5_copyFrom 0 = .ok (.aload_n 1, 1) := by decide +kernel
theorem dX5_copyFrom_1 : decode cX5_copyFrom 1 = .ok (.getfield 9, 3) := by decide +kernel
theorem dX5_copyFrom_4 : decode cX5_copyFrom 4 = .ok (.iconst 0, 1) := by decide +kernel
theorem dX5_copyFrom_5 : decode cX5_copyFrom 5 = .ok (.aload_n 0, 1) := by decide +kernel
theorem dX5_copyFrom_6 : decode cX5_copyFrom 6 = .ok (.getfield 9, 3) := by decide +kernel
theorem dX5_copyFrom_9 : decode cX5_copyFrom 9 = .ok (.iconst 0, 1) := by decide +kernel
theorem dX5_copyFrom_10 : decode cX5_copyFrom 10 = .ok (.iconst 4, 1) := by decide +kernel
theorem dX5_copyFrom_11 : decode cX5_copyFrom 11 = .ok (.invokestatic 31, 3) := by decide +kernel
theorem dX5_copyFrom_14 : decode cX5_copyFrom 14 = .ok (.aload_n 1, 1) := by decide +kernel
theorem dX5_copyFrom_15 : decode cX5_copyFrom 15 = .ok (.getfield 15, 3) := by decide +kernel
theorem dX5_copyFrom_18 : decode cX5_copyFrom 18 = .ok (.iconst 0, 1) := by decide +kernel
theorem dX5_copyFrom_19 : decode cX5_copyFrom 19 = .ok (.aload_n 0, 1) := by decide +kernel
theorem dX5_copyFrom_20 : decode cX5_copyFrom 20 = .ok (.getfield 15, 3) := by decide +kernel
theorem dX5_copyFrom_23 : decode cX5_copyFrom 23 = .ok (.iconst 0, 1) := by decide +kernel
theorem dX5_copyFrom_24 : decode cX5_copyFrom 24 = .ok (.iconst 4, 1) := by decide +kernel
theorem dX5_copyFrom_25 : decode cX5_copyFrom 25 = .ok (.invokestatic 31, 3) := by decide +kernel
theorem dX5_copyFrom_28 : decode cX5_copyFrom 28 = .ok (.aload_n 1, 1) := by decide +kernel
theorem dX5_copyFrom_29 : decode cX5_copyFrom 29 = .ok (.getfield 18, 3) := by decide +kernel
theorem dX5_copyFrom_32 : decode cX5_copyFrom 32 = .ok (.iconst 0, 1) := by decide +kernel
theorem dX5_copyFrom_33 : decode cX5_copyFrom 33 = .ok (.aload_n 0, 1) := by decide +kernel
theorem dX5_copyFrom_34 : decode cX5_copyFrom 34 = .ok (.getfield 18, 3) := by decide +kernel
theorem dX5_copyFrom_37 : decode cX5_copyFrom 37 = .ok (.iconst 0, 1) := by decide +kernel
theorem dX5_copyFrom_38 : decode cX5_copyFrom 38 = .ok (.iconst 4, 1) := by decide +kernel
theorem dX5_copyFrom_39 : decode cX5_copyFrom 39 = .ok (.invokestatic 31, 3) := by decide +kernel
theorem dX5_copyFrom_42 : decode cX5_copyFrom 42 = .ok (.aload_n 0, 1) := by decide +kernel
theorem dX5_copyFrom_43 : decode cX5_copyFrom 43 = .ok (.aload_n 1, 1) := by decide +kernel
theorem dX5_copyFrom_44 : decode cX5_copyFrom 44 = .ok (.getfield 21, 3) := by decide +kernel
theorem dX5_copyFrom_47 : decode cX5_copyFrom 47 = .ok (.putfield 21, 3) := by decide +kernel
theorem dX5_copyFrom_50 : decode cX5_copyFrom 50 = .ok (.aload_n 0, 1) := by decide +kernel
theorem dX5_copyFrom_51 : decode cX5_copyFrom 51 = .ok (.aload_n 1, 1) := by decide +kernel
theorem dX5_copyFrom_52 : decode cX5_copyFrom 52 = .ok (.getfield 28, 3) := by decide +kernel
theorem dX5_copyFrom_55 : decode cX5_copyFrom 55 = .ok (.putfield 28, 3) := by decide +kernel
theorem dX5_copyFrom_58 : decode cX5_copyFrom 58 = .ok (.return_, 1) := by decide +kernel
theorem dX6_init_0 : decode cX6_init 0 = .ok (.aload_n 0, 1) := by decide +kernel
theorem dX6_init_1 : decode cX6_init 1 = .ok (.invokespecial 3, 3) := by decide +kernel
theorem dX6_init_4 : decode cX6_init 4 = .ok (.aload_n 0, 1) := by decide +kernel
theorem dX6_init_5 : decode cX6_init 5 = .ok (.iconst 4, 1) := by decide +kernel
theorem dX6_init_6 : decode cX6_init 6 = .ok (.newarray .int, 2) := by decide +kernel
theorem dX6_init_8 : decode cX6_init 8 = .ok (.putfield 9, 3) := by decide +kernel
theorem dX6_init_11 : decode cX6_init 11 = .ok (.return_, 1) := by decide +kernel
theorem dX6_ask_0 : decode cX6_ask 0 = .ok (.aload_n 0, 1) := by decide +kernel
theorem dX6_ask_1 : decode cX6_ask 1 = .ok (.iconst 0, 1) := by decide +kernel
theorem dX6_ask_2 : decode cX6_ask 2 = .ok (.putfield 15, 3) := by decide +kernel
theorem dX6_ask_5 : decode cX6_ask 5 = .ok (.iconst 0, 1) := by decide +kernel
theorem dX6_ask_6 : decode cX6_ask 6 = .ok (.istore 4, 2) := by decide +kernel
theorem dX6_ask_8 : decode cX6_ask 8 = .ok (.iload 4, 2) := by decide +kernel
theorem dX6_ask_10 : decode cX6_ask 10 = .ok (.aload_n 1, 1) := by decide +kernel
theorem dX6_ask_11 : decode cX6_ask 11 = .ok (.getfield 19, 3) := by decide +kernel
theorem dX6_ask_14 : decode cX6_ask 14 = .ok (.if_icmp .ge 158, 3) := by decide +kernel
theorem dX6_ask_17 : decode cX6_ask 17 = .ok (.aload_n 1, 1) := by decide +kernel
theorem dX6_ask_18 : decode cX6_ask 18 = .ok (.iload 4, 2) := by decide +kernel
theorem dX6_ask_20 : decode cX6_ask 20 = .ok (.invokevirtual 24, 3) := by decide +kernel
theorem dX6_ask_23 : decode cX6_ask 23 = .ok (.istore 5, 2) := by decide +kernel
theorem dX6_ask_25 : decode cX6_ask 25 = .ok (.aload_n 1, 1) := by decide +kernel
theorem dX6_ask_26 : decode cX6_ask 26 = .ok (.iload 5, 2) := by decide +kernel
theorem dX6_ask_28 : decode cX6_ask 28 = .ok (.bipush 109, 2) := by decide +kernel
theorem dX6_ask_30 : decode cX6_ask 30 = .ok (.if_icmp .ne 10, 3) := by decide +kernel
theorem dX6_ask_33 : decode cX6_ask 33 = .ok (.iload 4, 2) := by decide +kernel
theorem dX6_ask_35 : decode cX6_ask 35 = .ok (.iconst 1, 1) := by decide +kernel
theorem dX6_ask_36 : decode cX6_ask 36 = .ok (.iadd, 1) := by decide +kernel
theorem dX6_ask_37 : decode cX6_ask 37 = .ok (.goto 5, 3) := by decide +kernel
theorem dX6_ask_40 : decode cX6_ask 40 = .ok (.iload 4, 2) := by decide +kernel
theorem dX6_ask_42 : decode cX6_ask 42 = .ok (.invokevirtual 28, 3) := by decide +kernel
theorem dX6_ask_45 : decode cX6_ask 45 = .ok (.istore 6, 2) := by decide +kernel
theorem dX6_ask_47 : decode cX6_ask 47 = .ok (.iload 5, 2) := by decide +kernel
theorem dX6_ask_49 : decode cX6_ask 49 = .ok (.bipush 109, 2) := by decide +kernel
theorem dX6_ask_51 : decode cX6_ask 51 = .ok (.if_icmp .ne 35, 3) := by decide +kernel
theorem dX6_ask_54 : decode cX6_ask 54 = .ok (.aload_n 3, 1) := by decide +kernel
theorem dX6_ask_55 : decode cX6_ask 55 = .ok (.iload 6, 2) := by decide +kernel
theorem dX6_ask_57 : decode cX6_ask 57 = .ok (.invokevirtual 32, 3) := by decide +kernel
theorem dX6_ask_60 : decode cX6_ask 60 = .ok (.ifCond .eq 20, 3) := by decide +kernel
theorem dX6_ask_63 : decode cX6_ask 63 = .ok (.aload_n 0, 1) := by decide +kernel
theorem dX6_ask_64 : decode cX6_ask 64 = .ok (.aload_n 3, 1) := by decide +kernel
theorem dX6_ask_65 : decode cX6_ask 65 = .ok (.iload 6, 2) := by decide +kernel
theorem dX6_ask_67 : decode cX6_ask 67 = .ok (.invokevirtual 38, 3) := by decide +kernel
theorem dX6_ask_70 : decode cX6_ask 70 = .ok (.invokevirtual 41, 3) := by decide +kernel
theorem dX6_ask_73 : decode cX6_ask 73 = .ok (.ifCond .eq 7, 3) := by decide +kernel
theorem dX6_ask_76 : decode cX6_ask 76 = .ok (.iconst 1, 1) := by decide +kernel
theorem dX6_ask_77 : decode cX6_ask 77 = .ok (.goto 4, 3) := by decide +kernel
theorem dX6_ask_80 : decode cX6_ask 80 = .ok (.iconst 0, 1) := by decide +kernel
theorem dX6_ask_81 : decode cX6_ask 81 = .ok (.istore 7, 2) := by decide +kernel
theorem dX6_ask_83 : decode cX6_ask 83 = .ok (.goto 61, 3) := by decide +kernel
theorem dX6_ask_86 : decode cX6_ask 86 = .ok (.iload 5, 2) := by decide +kernel
theorem dX6_ask_88 : decode cX6_ask 88 = .ok (.bipush 97, 2) := by decide +kernel
theorem dX6_ask_90 : decode cX6_ask 90 = .ok (.if_icmp .eq 10, 3) := by decide +kernel
theorem dX6_ask_93 : decode cX6_ask 93 = .ok (.iload 6, 2) := by decide +kernel
theorem dX6_ask_95 : decode cX6_ask 95 = .ok (.bipush (-4), 2) := by decide +kernel
theorem dX6_ask_97 : decode cX6_ask 97 = .ok (.if_icmp .eq 25, 3) := by decide +kernel
theorem dX6_ask_100 : decode cX6_ask 100 = .ok (.aload_n 0, 1) := by decide +kernel
theorem dX6_ask_101 : decode cX6_ask 101 = .ok (.iload 5, 2) := by decide +kernel
theorem dX6_ask_103 : decode cX6_ask 103 = .ok (.bipush 97, 2) := by decide +kernel
theorem dX6_ask_105 : decode cX6_ask 105 = .ok (.if_icmp .ne 7, 3) := by decide +kernel
theorem dX6_ask_108 : decode cX6_ask 108 = .ok (.iload_n 2, 1) := by decide +kernel
theorem dX6_ask_109 : decode cX6_ask 109 = .ok (.goto 5, 3) := by decide +kernel
theorem dX6_ask_112 : decode cX6_ask 112 = .ok (.iload 6, 2) := by decide +kernel
theorem dX6_ask_114 : decode cX6_ask 114 = .ok (.invokevirtual 41, 3) := by decide +kernel
theorem dX6_ask_117 : decode cX6_ask 117 = .ok (.istore 7, 2) := by decide +kernel
theorem dX6_ask_119 : decode cX6_ask 119 = .ok (.goto 25, 3) := by decide +kernel
theorem dX6_ask_122 : decode cX6_ask 122 = .ok (.iload 5, 2) := by decide +kernel
theorem dX6_ask_124 : decode cX6_ask 124 = .ok (.bipush 33, 2) := by decide +kernel
theorem dX6_ask_126 : decode cX6_ask 126 = .ok (.if_icmp .ne 10, 3) := by decide +kernel
theorem dX6_ask_129 : decode cX6_ask 129 = .ok (.aload_n 0, 1) := by decide +kernel
theorem dX6_ask_130 : decode cX6_ask 130 = .ok (.invokevirtual 44, 3) := by decide +kernel
theorem dX6_ask_133 : decode cX6_ask 133 = .ok (.goto 9, 3) := by decide +kernel
theorem dX6_ask_136 : decode cX6_ask 136 = .ok (.aload_n 0, 1) := by decide +kernel
theorem dX6_ask_137 : decode cX6_ask 137 = .ok (.iload 5, 2) := by decide +kernel
theorem dX6_ask_139 : decode cX6_ask 139 = .ok (.invokevirtual 48, 3) := by decide +kernel
theorem dX6_ask_142 : decode cX6_ask 142 = .ok (.istore 7, 2) := by decide +kernel
theorem dX6_ask_144 : decode cX6_ask 144 = .ok (.iload 7, 2) := by decide +kernel
theorem dX6_ask_146 : decode cX6_ask 146 = .ok (.ifCond .ne 6, 3) := by decide +kernel
theorem dX6_ask_149 : decode cX6_ask 149 = .ok (.bipush (-2), 2) := by decide +kernel
theorem dX6_ask_151 : decode cX6_ask 151 = .ok (.ireturn, 1) := by decide +kernel
theorem dX6_ask_152 : decode cX6_ask 152 = .ok (.iload 4, 2) := by decide +kernel
theorem dX6_ask_154 : decode cX6_ask 154 = .ok (.iload 5, 2) := by decide +kernel
theorem dX6_ask_156 : decode cX6_ask 156 = .ok (.bipush 109, 2) := by decide +kernel
theorem dX6_ask_158 : decode cX6_ask 158 = .ok (.if_icmp .ne 7, 3) := by decide +kernel
theorem dX6_ask_161 : decode cX6_ask 161 = .ok (.iconst 2, 1) := by decide +kernel
theorem dX6_ask_162 : decode cX6_ask 162 = .ok (.goto 4, 3) := by decide +kernel
theorem dX6_ask_165 : decode cX6_ask 165 = .ok (.iconst 1, 1) := by decide +kernel
theorem dX6_ask_166 : decode cX6_ask 166 = .ok (.iadd, 1) := by decide +kernel
theorem dX6_ask_167 : decode cX6_ask 167 = .ok (.istore 4, 2) := by decide +kernel
theorem dX6_ask_169 : decode cX6_ask 169 = .ok (.goto (-161), 3) := by decide +kernel
theorem dX6_ask_172 : decode cX6_ask 172 = .ok (.aload_n 0, 1) := by decide +kernel
theorem dX6_ask_173 : decode cX6_ask 173 = .ok (.getfield 15, 3) := by decide +kernel
theorem dX6_ask_176 : decode cX6_ask 176 = .ok (.iconst 1, 1) := by decide +kernel
theorem dX6_ask_177 : decode cX6_ask 177 = .ok (.if_icmp .ne 12, 3) := by decide +kernel
theorem dX6_ask_180 : decode cX6_ask 180 = .ok (.aload_n 0, 1) := by decide +kernel
theorem dX6_ask_181 : decode cX6_ask 181 = .ok (.getfield 9, 3) := by decide +kernel
theorem dX6_ask_184 : decode cX6_ask 184 = .ok (.iconst 0, 1) := by decide +kernel
theorem dX6_ask_185 : decode cX6_ask 185 = .ok (.iaload, 1) := by decide +kernel
theorem dX6_ask_186 : decode cX6_ask 186 = .ok (.goto 5, 3) := by decide +kernel
theorem dX6_ask_189 : decode cX6_ask 189 = .ok (.bipush (-2), 2) := by decide +kernel
theorem dX6_ask_191 : decode cX6_ask 191 = .ok (.ireturn, 1) := by decide +kernel
theorem dX6_put_0 : decode cX6_put 0 = .ok (.aload_n 0, 1) := by decide +kernel
theorem dX6_put_1 : decode cX6_put 1 = .ok (.getfield 15, 3) := by decide +kernel
theorem dX6_put_4 : decode cX6_put 4 = .ok (.ifCond .lt 11, 3) := by decide +kernel
theorem dX6_put_7 : decode cX6_put 7 = .ok (.aload_n 0, 1) := by decide +kernel
theorem dX6_put_8 : decode cX6_put 8 = .ok (.getfield 15, 3) := by decide +kernel
theorem dX6_put_11 : decode cX6_put 11 = .ok (.iconst 4, 1) := by decide +kernel
theorem dX6_put_12 : decode cX6_put 12 = .ok (.if_icmp .lt 5, 3) := by decide +kernel
theorem dX6_put_15 : decode cX6_put 15 = .ok (.iconst 0, 1) := by decide +kernel
theorem dX6_put_16 : decode cX6_put 16 = .ok (.ireturn, 1) := by decide +kernel
theorem dX6_put_17 : decode cX6_put 17 = .ok (.aload_n 0, 1) := by decide +kernel
theorem dX6_put_18 : decode cX6_put 18 = .ok (.getfield 9, 3) := by decide +kernel
theorem dX6_put_21 : decode cX6_put 21 = .ok (.aload_n 0, 1) := by decide +kernel
theorem dX6_put_22 : decode cX6_put 22 = .ok (.getfield 15, 3) := by decide +kernel
theorem dX6_put_25 : decode cX6_put 25 = .ok (.iload_n 1, 1) := by decide +kernel
theorem dX6_put_26 : decode cX6_put 26 = .ok (.iastore, 1) := by decide +kernel
theorem dX6_put_27 : decode cX6_put 27 = .ok (.aload_n 0, 1) := by decide +kernel
theorem dX6_put_28 : decode cX6_put 28 = .ok (.dup, 1) := by decide +kernel
theorem dX6_put_29 : decode cX6_put 29 = .ok (.getfield 15, 3) := by decide +kernel
theorem dX6_put_32 : decode cX6_put 32 = .ok (.iconst 1, 1) := by decide +kernel
theorem dX6_put_33 : decode cX6_put 33 = .ok (.iadd, 1) := by decide +kernel
theorem dX6_put_34 : decode cX6_put 34 = .ok (.putfield 15, 3) := by decide +kernel
theorem dX6_put_37 : decode cX6_put 37 = .ok (.iconst 1, 1) := by decide +kernel
theorem dX6_put_38 : decode cX6_put 38 = .ok (.ireturn, 1) := by decide +kernel
theorem dX6_turnTop_0 : decode cX6_turnTop 0 = .ok (.aload_n 0, 1) := by decide +kernel
theorem dX6_turnTop_1 : decode cX6_turnTop 1 = .ok (.getfield 15, 3) := by decide +kernel
theorem dX6_turnTop_4 : decode cX6_turnTop 4 = .ok (.iconst 1, 1) := by decide +kernel
theorem dX6_turnTop_5 : decode cX6_turnTop 5 = .ok (.isub, 1) := by decide +kernel
theorem dX6_turnTop_6 : decode cX6_turnTop 6 = .ok (.istore_n 1, 1) := by decide +kernel
theorem dX6_turnTop_7 : decode cX6_turnTop 7 = .ok (.iload_n 1, 1) := by decide +kernel
theorem dX6_turnTop_8 : decode cX6_turnTop 8 = .ok (.ifCond .lt 8, 3) := by decide +kernel
theorem dX6_turnTop_11 : decode cX6_turnTop 11 = .ok (.iload_n 1, 1) := by decide +kernel
theorem dX6_turnTop_12 : decode cX6_turnTop 12 = .ok (.iconst 4, 1) := by decide +kernel
theorem dX6_turnTop_13 : decode cX6_turnTop 13 = .ok (.if_icmp .lt 5, 3) := by decide +kernel
theorem dX6_turnTop_16 : decode cX6_turnTop 16 = .ok (.iconst 0, 1) := by decide +kernel
theorem dX6_turnTop_17 : decode cX6_turnTop 17 = .ok (.ireturn, 1) := by decide +kernel
theorem dX6_turnTop_18 : decode cX6_turnTop 18 = .ok (.aload_n 0, 1) := by decide +kernel
theorem dX6_turnTop_19 : decode cX6_turnTop 19 = .ok (.getfield 9, 3) := by decide +kernel
theorem dX6_turnTop_22 : decode cX6_turnTop 22 = .ok (.iload_n 1, 1) := by decide +kernel
theorem dX6_turnTop_23 : decode cX6_turnTop 23 = .ok (.aload_n 0, 1) := by decide +kernel
theorem dX6_turnTop_24 : decode cX6_turnTop 24 = .ok (.getfield 9, 3) := by decide +kernel
theorem dX6_turnTop_27 : decode cX6_turnTop 27 = .ok (.iload_n 1, 1) := by decide +kernel
theorem dX6_turnTop_28 : decode cX6_turnTop 28 = .ok (.iaload, 1) := by decide +kernel
theorem dX6_turnTop_29 : decode cX6_turnTop 29 = .ok (.ifCond .ne 7, 3) := by decide +kernel
theorem dX6_turnTop_32 : decode cX6_turnTop 32 = .ok (.iconst 1, 1) := by decide +kernel
theorem dX6_turnTop_33 : decode cX6_turnTop 33 = .ok (.goto 4, 3) := by decide +kernel
theorem dX6_turnTop_36 : decode cX6_turnTop 36 = .ok (.iconst 0, 1) := by decide +kernel
theorem dX6_turnTop_37 : decode cX6_turnTop 37 = .ok (.iastore, 1) := by decide +kernel
theorem dX6_turnTop_38 : decode cX6_turnTop 38 = .ok (.iconst 1, 1) := by decide +kernel
theorem dX6_turnTop_39 : decode cX6_turnTop 39 = .ok (.ireturn, 1) := by decide +kernel
theorem dX6_join_0 : decode cX6_join 0 = .ok (.aload_n 0, 1) := by decide +kernel
theorem dX6_join_1 : decode cX6_join 1 = .ok (.getfield 15, 3) := by decide +kernel
theorem dX6_join_4 : decode cX6_join 4 = .ok (.iconst 1, 1) := by decide +kernel
theorem dX6_join_5 : decode cX6_join 5 = .ok (.isub, 1) := by decide +kernel
theorem dX6_join_6 : decode cX6_join 6 = .ok (.istore_n 2, 1) := by decide +kernel
theorem dX6_join_7 : decode cX6_join 7 = .ok (.iload_n 2, 1) := by decide +kernel
theorem dX6_join_8 : decode cX6_join 8 = .ok (.iconst 1, 1) := by decide +kernel
theorem dX6_join_9 : decode cX6_join 9 = .ok (.if_icmp .lt 8, 3) := by decide +kernel
theorem dX6_join_12 : decode cX6_join 12 = .ok (.iload_n 2, 1) := by decide +kernel
theorem dX6_join_13 : decode cX6_join 13 = .ok (.iconst 4, 1) := by decide +kernel
theorem dX6_join_14 : decode cX6_join 14 = .ok (.if_icmp .lt 5, 3) := by decide +kernel
theorem dX6_join_17 : decode cX6_join 17 = .ok (.iconst 0, 1) := by decide +kernel
theorem dX6_join_18 : decode cX6_join 18 = .ok (.ireturn, 1) := by decide +kernel
theorem dX6_join_19 : decode cX6_join 19 = .ok (.iload_n 1, 1) := by decide +kernel
theorem dX6_join_20 : decode cX6_join 20 = .ok (.aload_n 0, 1) := by decide +kernel
theorem dX6_join_21 : decode cX6_join 21 = .ok (.getfield 9, 3) := by decide +kernel
theorem dX6_join_24 : decode cX6_join 24 = .ok (.iload_n 2, 1) := by decide +kernel
theorem dX6_join_25 : decode cX6_join 25 = .ok (.iconst 1, 1) := by decide +kernel
theorem dX6_join_26 : decode cX6_join 26 = .ok (.isub, 1) := by decide +kernel
theorem dX6_join_27 : decode cX6_join 27 = .ok (.iaload, 1) := by decide +kernel
theorem dX6_join_28 : decode cX6_join 28 = .ok (.aload_n 0, 1) := by decide +kernel
theorem dX6_join_29 : decode cX6_join 29 = .ok (.getfield 9, 3) := by decide +kernel
theorem dX6_join_32 : decode cX6_join 32 = .ok (.iload_n 2, 1) := by decide +kernel
theorem dX6_join_33 : decode cX6_join 33 = .ok (.iaload, 1) := by decide +kernel
theorem dX6_join_34 : decode cX6_join 34 = .ok (.invokestatic 52, 3) := by decide +kernel
theorem dX6_join_37 : decode cX6_join 37 = .ok (.istore_n 3, 1) := by decide +kernel
theorem dX6_join_38 : decode cX6_join 38 = .ok (.iload_n 3, 1) := by decide +kernel
theorem dX6_join_39 : decode cX6_join 39 = .ok (.bipush (-4), 2) := by decide +kernel
theorem dX6_join_41 : decode cX6_join 41 = .ok (.if_icmp .ne 5, 3) := by decide +kernel
theorem dX6_join_44 : decode cX6_join 44 = .ok (.iconst 0, 1) := by decide +kernel
theorem dX6_join_45 : decode cX6_join 45 = .ok (.ireturn, 1) := by decide +kernel
theorem dX6_join_46 : decode cX6_join 46 = .ok (.aload_n 0, 1) := by decide +kernel
theorem dX6_join_47 : decode cX6_join 47 = .ok (.getfield 9, 3) := by decide +kernel
theorem dX6_join_50 : decode cX6_join 50 = .ok (.iload_n 2, 1) := by decide +kernel
theorem dX6_join_51 : decode cX6_join 51 = .ok (.iconst 1, 1) := by decide +kernel
theorem dX6_join_52 : decode cX6_join 52 = .ok (.isub, 1) := by decide +kernel
theorem dX6_join_53 : decode cX6_join 53 = .ok (.iload_n 3, 1) := by decide +kernel
theorem dX6_join_54 : decode cX6_join 54 = .ok (.iastore, 1) := by decide +kernel
theorem dX6_join_55 : decode cX6_join 55 = .ok (.aload_n 0, 1) := by decide +kernel
theorem dX6_join_56 : decode cX6_join 56 = .ok (.dup, 1) := by decide +kernel
theorem dX6_join_57 : decode cX6_join 57 = .ok (.getfield 15, 3) := by decide +kernel
theorem dX6_join_60 : decode cX6_join 60 = .ok (.iconst 1, 1) := by decide +kernel
theorem dX6_join_61 : decode cX6_join 61 = .ok (.isub, 1) := by decide +kernel
theorem dX6_join_62 : decode cX6_join 62 = .ok (.putfield 15, 3) := by decide +kernel
theorem dX6_join_65 : decode cX6_join 65 = .ok (.iconst 1, 1) := by decide +kernel
theorem dX6_join_66 : decode cX6_join 66 = .ok (.ireturn, 1) := by decide +kernel
theorem dX6_joined_0 : decode cX6_joined 0 = .ok (.iload_n 0, 1) := by decide +kernel
theorem dX6_joined_1 : decode cX6_joined 1 = .ok (.lookupswitch 145 #[(38, 117), (42, 87), (43, 67), (45, 75), (60, 95), (61, 106), (124, 131)], 67) := by decide +kernel
theorem dX6_joined_68 : decode cX6_joined 68 = .ok (.iload_n 1, 1) := by decide +kernel
theorem dX6_joined_69 : decode cX6_joined 69 = .ok (.iload_n 2, 1) := by decide +kernel
theorem dX6_joined_70 : decode cX6_joined 70 = .ok (.iadd, 1) := by decide +kernel
theorem dX6_joined_71 : decode cX6_joined 71 = .ok (.sipush 1000, 3) := by decide +kernel
theorem dX6_joined_74 : decode cX6_joined 74 = .ok (.irem, 1) := by decide +kernel
theorem dX6_joined_75 : decode cX6_joined 75 = .ok (.ireturn, 1) := by decide +kernel
theorem dX6_joined_76 : decode cX6_joined 76 = .ok (.iload_n 1, 1) := by decide +kernel
theorem dX6_joined_77 : decode cX6_joined 77 = .ok (.sipush 1000, 3) := by decide +kernel
theorem dX6_joined_80 : decode cX6_joined 80 = .ok (.iadd, 1) := by decide +kernel
theorem dX6_joined_81 : decode cX6_joined 81 = .ok (.iload_n 2, 1) := by decide +kernel
theorem dX6_joined_82 : decode cX6_joined 82 = .ok (.isub, 1) := by decide +kernel
theorem dX6_joined_83 : decode cX6_joined 83 = .ok (.sipush 1000, 3) := by decide +kernel
theorem dX6_joined_86 : decode cX6_joined 86 = .ok (.irem, 1) := by decide +kernel
theorem dX6_joined_87 : decode cX6_joined 87 = .ok (.ireturn, 1) := by decide +kernel
theorem dX6_joined_88 : decode cX6_joined 88 = .ok (.iload_n 1, 1) := by decide +kernel
theorem dX6_joined_89 : decode cX6_joined 89 = .ok (.iload_n 2, 1) := by decide +kernel
theorem dX6_joined_90 : decode cX6_joined 90 = .ok (.imul, 1) := by decide +kernel
theorem dX6_joined_91 : decode cX6_joined 91 = .ok (.sipush 1000, 3) := by decide +kernel
theorem dX6_joined_94 : decode cX6_joined 94 = .ok (.irem, 1) := by decide +kernel
theorem dX6_joined_95 : decode cX6_joined 95 = .ok (.ireturn, 1) := by decide +kernel
theorem dX6_joined_96 : decode cX6_joined 96 = .ok (.iload_n 1, 1) := by decide +kernel
theorem dX6_joined_97 : decode cX6_joined 97 = .ok (.iload_n 2, 1) := by decide +kernel
theorem dX6_joined_98 : decode cX6_joined 98 = .ok (.if_icmp .ge 7, 3) := by decide +kernel
theorem dX6_joined_101 : decode cX6_joined 101 = .ok (.iconst 1, 1) := by decide +kernel
theorem dX6_joined_102 : decode cX6_joined 102 = .ok (.goto 4, 3) := by decide +kernel
theorem dX6_joined_105 : decode cX6_joined 105 = .ok (.iconst 0, 1) := by decide +kernel
theorem dX6_joined_106 : decode cX6_joined 106 = .ok (.ireturn, 1) := by decide +kernel
theorem dX6_joined_107 : decode cX6_joined 107 = .ok (.iload_n 1, 1) := by decide +kernel
theorem dX6_joined_108 : decode cX6_joined 108 = .ok (.iload_n 2, 1) := by decide +kernel
theorem dX6_joined_109 : decode cX6_joined 109 = .ok (.if_icmp .ne 7, 3) := by decide +kernel
theorem dX6_joined_112 : decode cX6_joined 112 = .ok (.iconst 1, 1) := by decide +kernel
theorem dX6_joined_113 : decode cX6_joined 113 = .ok (.goto 4, 3) := by decide +kernel
theorem dX6_joined_116 : decode cX6_joined 116 = .ok (.iconst 0, 1) := by decide +kernel
theorem dX6_joined_117 : decode cX6_joined 117 = .ok (.ireturn, 1) := by decide +kernel
theorem dX6_joined_118 : decode cX6_joined 118 = .ok (.iload_n 1, 1) := by decide +kernel
theorem dX6_joined_119 : decode cX6_joined 119 = .ok (.ifCond .eq 11, 3) := by decide +kernel
theorem dX6_joined_122 : decode cX6_joined 122 = .ok (.iload_n 2, 1) := by decide +kernel
theorem dX6_joined_123 : decode cX6_joined 123 = .ok (.ifCond .eq 7, 3) := by decide +kernel
theorem dX6_joined_126 : decode cX6_joined 126 = .ok (.iconst 1, 1) := by decide +kernel
theorem dX6_joined_127 : decode cX6_joined 127 = .ok (.goto 4, 3) := by decide +kernel
theorem dX6_joined_130 : decode cX6_joined 130 = .ok (.iconst 0, 1) := by decide +kernel
theorem dX6_joined_131 : decode cX6_joined 131 = .ok (.ireturn, 1) := by decide +kernel
theorem dX6_joined_132 : decode cX6_joined 132 = .ok (.iload_n 1, 1) := by decide +kernel
theorem dX6_joined_133 : decode cX6_joined 133 = .ok (.ifCond .ne 7, 3) := by decide +kernel
theorem dX6_joined_136 : decode cX6_joined 136 = .ok (.iload_n 2, 1) := by decide +kernel
theorem dX6_joined_137 : decode cX6_joined 137 = .ok (.ifCond .eq 7, 3) := by decide +kernel
theorem dX6_joined_140 : decode cX6_joined 140 = .ok (.iconst 1, 1) := by decide +kernel
theorem dX6_joined_141 : decode cX6_joined 141 = .ok (.goto 4, 3) := by decide +kernel
theorem dX6_joined_144 : decode cX6_joined 144 = .ok (.iconst 0, 1) := by decide +kernel
theorem dX6_joined_145 : decode cX6_joined 145 = .ok (.ireturn, 1) := by decide +kernel
theorem dX6_joined_146 : decode cX6_joined 146 = .ok (.bipush (-4), 2) := by decide +kernel
theorem dX6_joined_148 : decode cX6_joined 148 = .ok (.ireturn, 1) := by decide +kernel
theorem dX7_init_0 : decode cX7_init 0 = .ok (.aload_n 0, 1) := by decide +kernel
theorem dX7_init_1 : decode cX7_init 1 = .ok (.invokespecial 3, 3) := by decide +kernel
theorem dX7_init_4 : decode cX7_init 4 = .ok (.aload_n 0, 1) := by decide +kernel
theorem dX7_init_5 : decode cX7_init 5 = .ok (.new 9, 3) := by decide +kernel
theorem dX7_init_8 : decode cX7_init 8 = .ok (.dup, 1) := by decide +kernel
theorem dX7_init_9 : decode cX7_init 9 = .ok (.invokespecial 11, 3) := by decide +kernel
theorem dX7_init_12 : decode cX7_init 12 = .ok (.putfield 12, 3) := by decide +kernel
theorem dX7_init_15 : decode cX7_init 15 = .ok (.aload_n 0, 1) := by decide +kernel
theorem dX7_init_16 : decode cX7_init 16 = .ok (.new 18, 3) := by decide +kernel
theorem dX7_init_19 : decode cX7_init 19 = .ok (.dup, 1) := by decide +kernel
theorem dX7_init_20 : decode cX7_init 20 = .ok (.invokespecial 20, 3) := by decide +kernel
theorem dX7_init_23 : decode cX7_init 23 = .ok (.putfield 21, 3) := by decide +kernel
theorem dX7_init_26 : decode cX7_init 26 = .ok (.aload_n 0, 1) := by decide +kernel
theorem dX7_init_27 : decode cX7_init 27 = .ok (.new 18, 3) := by decide +kernel
theorem dX7_init_30 : decode cX7_init 30 = .ok (.dup, 1) := by decide +kernel
theorem dX7_init_31 : decode cX7_init 31 = .ok (.invokespecial 20, 3) := by decide +kernel
theorem dX7_init_34 : decode cX7_init 34 = .ok (.putfield 25, 3) := by decide +kernel
theorem dX7_init_37 : decode cX7_init 37 = .ok (.aload_n 0, 1) := by decide +kernel
theorem dX7_init_38 : decode cX7_init 38 = .ok (.bipush 6, 2) := by decide +kernel
theorem dX7_init_40 : decode cX7_init 40 = .ok (.anewarray 28, 3) := by decide +kernel
theorem dX7_init_43 : decode cX7_init 43 = .ok (.putfield 30, 3) := by decide +kernel
theorem dX7_init_46 : decode cX7_init 46 = .ok (.iconst 0, 1) := by decide +kernel
theorem dX7_init_47 : decode cX7_init 47 = .ok (.istore_n 1, 1) := by decide +kernel
theorem dX7_init_48 : decode cX7_init 48 = .ok (.iload_n 1, 1) := by decide +kernel
theorem dX7_init_49 : decode cX7_init 49 = .ok (.bipush 6, 2) := by decide +kernel
theorem dX7_init_51 : decode cX7_init 51 = .ok (.if_icmp .ge 23, 3) := by decide +kernel
theorem dX7_init_54 : decode cX7_init 54 = .ok (.aload_n 0, 1) := by decide +kernel
theorem dX7_init_55 : decode cX7_init 55 = .ok (.getfield 30, 3) := by decide +kernel
theorem dX7_init_58 : decode cX7_init 58 = .ok (.iload_n 1, 1) := by decide +kernel
theorem dX7_init_59 : decode cX7_init 59 = .ok (.new 28, 3) := by decide +kernel
theorem dX7_init_62 : decode cX7_init 62 = .ok (.dup, 1) := by decide +kernel
theorem dX7_init_63 : decode cX7_init 63 = .ok (.iload_n 1, 1) := by decide +kernel
theorem dX7_init_64 : decode cX7_init 64 = .ok (.invokespecial 34, 3) := by decide +kernel
theorem dX7_init_67 : decode cX7_init 67 = .ok (.aastore, 1) := by decide +kernel
theorem dX7_init_68 : decode cX7_init 68 = .ok (.iinc 1 1, 3) := by decide +kernel
theorem dX7_init_71 : decode cX7_init 71 = .ok (.goto (-23), 3) := by decide +kernel
theorem dX7_init_74 : decode cX7_init 74 = .ok (.return_, 1) := by decide +kernel
theorem dX7_processorOrNull_0 : decode cX7_processorOrNull 0 = .ok (.iload_n 1, 1) := by decide +kernel
theorem dX7_processorOrNull_1 : decode cX7_processorOrNull 1 = .ok (.ifCond .ne 8, 3) := by decide +kernel
theorem dX7_processorOrNull_4 : decode cX7_processorOrNull 4 = .ok (.aload_n 0, 1) := by decide +kernel
theorem dX7_processorOrNull_5 : decode cX7_processorOrNull 5 = .ok (.getfield 21, 3) := by decide +kernel
theorem dX7_processorOrNull_8 : decode cX7_processorOrNull 8 = .ok (.areturn, 1) := by decide +kernel
theorem dX7_processorOrNull_9 : decode cX7_processorOrNull 9 = .ok (.iload_n 1, 1) := by decide +kernel
theorem dX7_processorOrNull_10 : decode cX7_processorOrNull 10 = .ok (.iconst 1, 1) := by decide +kernel
theorem dX7_processorOrNull_11 : decode cX7_processorOrNull 11 = .ok (.if_icmp .ne 10, 3) := by decide +kernel
theorem dX7_processorOrNull_14 : decode cX7_processorOrNull 14 = .ok (.aload_n 0, 1) := by decide +kernel
theorem dX7_processorOrNull_15 : decode cX7_processorOrNull 15 = .ok (.getfield 25, 3) := by decide +kernel
theorem dX7_processorOrNull_18 : decode cX7_processorOrNull 18 = .ok (.goto 4, 3) := by decide +kernel
theorem dX7_processorOrNull_21 : decode cX7_processorOrNull 21 = .ok (.aconst_null, 1) := by decide +kernel
theorem dX7_processorOrNull_22 : decode cX7_processorOrNull 22 = .ok (.areturn, 1) := by decide +kernel
theorem dX7_probeOrNull_0 : decode cX7_probeOrNull 0 = .ok (.iload_n 1, 1) := by decide +kernel
theorem dX7_probeOrNull_1 : decode cX7_probeOrNull 1 = .ok (.ifCond .lt 21, 3) := by decide +kernel
theorem dX7_probeOrNull_4 : decode cX7_probeOrNull 4 = .ok (.iload_n 1, 1) := by decide +kernel
theorem dX7_probeOrNull_5 : decode cX7_probeOrNull 5 = .ok (.aload_n 0, 1) := by decide +kernel
theorem dX7_probeOrNull_6 : decode cX7_probeOrNull 6 = .ok (.getfield 30, 3) := by decide +kernel
theorem dX7_probeOrNull_9 : decode cX7_probeOrNull 9 = .ok (.arraylength, 1) := by decide +kernel
theorem dX7_probeOrNull_10 : decode cX7_probeOrNull 10 = .ok (.if_icmp .ge 12, 3) := by decide +kernel
theorem dX7_probeOrNull_13 : decode cX7_probeOrNull 13 = .ok (.aload_n 0, 1) := by decide +kernel
theorem dX7_probeOrNull_14 : decode cX7_probeOrNull 14 = .ok (.getfield 30, 3) := by decide +kernel
theorem dX7_probeOrNull_17 : decode cX7_probeOrNull 17 = .ok (.iload_n 1, 1) := by decide +kernel
theorem dX7_probeOrNull_18 : decode cX7_probeOrNull 18 = .ok (.aaload, 1) := by decide +kernel
theorem dX7_probeOrNull_19 : decode cX7_probeOrNull 19 = .ok (.goto 4, 3) := by decide +kernel
theorem dX7_probeOrNull_22 : decode cX7_probeOrNull 22 = .ok (.aconst_null, 1) := by decide +kernel
theorem dX7_probeOrNull_23 : decode cX7_probeOrNull 23 = .ok (.areturn, 1) := by decide +kernel
theorem dX7_probeNotGone_0 : decode cX7_probeNotGone 0 = .ok (.aload_n 0, 1) := by decide +kernel
theorem dX7_probeNotGone_1 : decode cX7_probeNotGone 1 = .ok (.iload_n 1, 1) := by decide +kernel
theorem dX7_probeNotGone_2 : decode cX7_probeNotGone 2 = .ok (.invokevirtual 37, 3) := by decide +kernel
theorem dX7_probeNotGone_5 : decode cX7_probeNotGone 5 = .ok (.astore_n 2, 1) := by decide +kernel
theorem dX7_probeNotGone_6 : decode cX7_probeNotGone 6 = .ok (.aload_n 2, 1) := by decide +kernel
theorem dX7_probeNotGone_7 : decode cX7_probeNotGone 7 = .ok (.ifnull 11, 3) := by decide +kernel
theorem dX7_probeNotGone_10 : decode cX7_probeNotGone 10 = .ok (.aload_n 2, 1) := by decide +kernel
theorem dX7_probeNotGone_11 : decode cX7_probeNotGone 11 = .ok (.getfield 41, 3) := by decide +kernel
theorem dX7_probeNotGone_14 : decode cX7_probeNotGone 14 = .ok (.iconst 3, 1) := by decide +kernel
theorem dX7_probeNotGone_15 : decode cX7_probeNotGone 15 = .ok (.if_icmp .ne 7, 3) := by decide +kernel
theorem dX7_probeNotGone_18 : decode cX7_probeNotGone 18 = .ok (.aconst_null, 1) := by decide +kernel
theorem dX7_probeNotGone_19 : decode cX7_probeNotGone 19 = .ok (.goto 4, 3) := by decide +kernel
theorem dX7_probeNotGone_22 : decode cX7_probeNotGone 22 = .ok (.aload_n 2, 1) := by decide +kernel
theorem dX7_probeNotGone_23 : decode cX7_probeNotGone 23 = .ok (.areturn, 1) := by decide +kernel
