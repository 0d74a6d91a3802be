theorem dX7_probeOn_0 : decode cX7_probeOn 0 = .ok (.iconst 0, 1) := by decide +kernel
theorem dX7_probeOn_1 : decode cX7_probeOn 1 = .ok (.istore_n 2, 1) := by decide +kernel
theorem dX7_probeOn_2 : decode cX7_probeOn 2 = .ok (.iload_n 2, 1) := by decide +kernel
theorem dX7_probeOn_3 : decode cX7_probeOn 3 = .ok (.bipush 6, 2) := by decide +kernel
theorem dX7_probeOn_5 : decode cX7_probeOn 5 = .ok (.if_icmp .ge 29, 3) := by decide +kernel
theorem dX7_probeOn_8 : decode cX7_probeOn 8 = .ok (.aload_n 0, 1) := by decide +kernel
theorem dX7_probeOn_9 : decode cX7_probeOn 9 = .ok (.iload_n 2, 1) := by decide +kernel
theorem dX7_probeOn_10 : decode cX7_probeOn 10 = .ok (.invokevirtual 45, 3) := by decide +kernel
theorem dX7_probeOn_13 : decode cX7_probeOn 13 = .ok (.astore_n 3, 1) := by decide +kernel
theorem dX7_probeOn_14 : decode cX7_probeOn 14 = .ok (.aload_n 3, 1) := by decide +kernel
theorem dX7_probeOn_15 : decode cX7_probeOn 15 = .ok (.ifnull 13, 3) := by decide +kernel
theorem dX7_probeOn_18 : decode cX7_probeOn 18 = .ok (.aload_n 3, 1) := by decide +kernel
theorem dX7_probeOn_19 : decode cX7_probeOn 19 = .ok (.getfield 48, 3) := by decide +kernel
theorem dX7_probeOn_22 : decode cX7_probeOn 22 = .ok (.iload_n 1, 1) := by decide +kernel
theorem dX7_probeOn_23 : decode cX7_probeOn 23 = .ok (.if_icmp .ne 5, 3) := by decide +kernel
theorem dX7_probeOn_26 : decode cX7_probeOn 26 = .ok (.aload_n 3, 1) := by decide +kernel
theorem dX7_probeOn_27 : decode cX7_probeOn 27 = .ok (.areturn, 1) := by decide +kernel
theorem dX7_probeOn_28 : decode cX7_probeOn 28 = .ok (.iinc 2 1, 3) := by decide +kernel
theorem dX7_probeOn_31 : decode cX7_probeOn 31 = .ok (.goto (-29), 3) := by decide +kernel
theorem dX7_probeOn_34 : decode cX7_probeOn 34 = .ok (.aconst_null, 1) := by decide +kernel
theorem dX7_probeOn_35 : decode cX7_probeOn 35 = .ok (.areturn, 1) := by decide +kernel
theorem dX7_probeIsOnAt_0 : decode cX7_probeIsOnAt 0 = .ok (.aload_n 0, 1) := by decide +kernel
theorem dX7_probeIsOnAt_1 : decode cX7_probeIsOnAt 1 = .ok (.iload_n 1, 1) := by decide +kernel
theorem dX7_probeIsOnAt_2 : decode cX7_probeIsOnAt 2 = .ok (.invokevirtual 51, 3) := by decide +kernel
theorem dX7_probeIsOnAt_5 : decode cX7_probeIsOnAt 5 = .ok (.astore_n 2, 1) := by decide +kernel
theorem dX7_probeIsOnAt_6 : decode cX7_probeIsOnAt 6 = .ok (.aload_n 2, 1) := by decide +kernel
theorem dX7_probeIsOnAt_7 : decode cX7_probeIsOnAt 7 = .ok (.ifnull 14, 3) := by decide +kernel
theorem dX7_probeIsOnAt_10 : decode cX7_probeIsOnAt 10 = .ok (.aload_n 2, 1) := by decide +kernel
theorem dX7_probeIsOnAt_11 : decode cX7_probeIsOnAt 11 = .ok (.getfield 41, 3) := by decide +kernel
theorem dX7_probeIsOnAt_14 : decode cX7_probeIsOnAt 14 = .ok (.ifCond .ne 7, 3) := by decide +kernel
theorem dX7_probeIsOnAt_17 : decode cX7_probeIsOnAt 17 = .ok (.iconst 1, 1) := by decide +kernel
theorem dX7_probeIsOnAt_18 : decode cX7_probeIsOnAt 18 = .ok (.goto 4, 3) := by decide +kernel
theorem dX7_probeIsOnAt_21 : decode cX7_probeIsOnAt 21 = .ok (.iconst 0, 1) := by decide +kernel
theorem dX7_probeIsOnAt_22 : decode cX7_probeIsOnAt 22 = .ok (.ireturn, 1) := by decide +kernel
theorem dX7_lowestGone_0 : decode cX7_lowestGone 0 = .ok (.iconst 0, 1) := by decide +kernel
theorem dX7_lowestGone_1 : decode cX7_lowestGone 1 = .ok (.istore_n 1, 1) := by decide +kernel
theorem dX7_lowestGone_2 : decode cX7_lowestGone 2 = .ok (.iload_n 1, 1) := by decide +kernel
theorem dX7_lowestGone_3 : decode cX7_lowestGone 3 = .ok (.bipush 6, 2) := by decide +kernel
theorem dX7_lowestGone_5 : decode cX7_lowestGone 5 = .ok (.if_icmp .ge 23, 3) := by decide +kernel
theorem dX7_lowestGone_8 : decode cX7_lowestGone 8 = .ok (.aload_n 0, 1) := by decide +kernel
theorem dX7_lowestGone_9 : decode cX7_lowestGone 9 = .ok (.iload_n 1, 1) := by decide +kernel
theorem dX7_lowestGone_10 : decode cX7_lowestGone 10 = .ok (.invokevirtual 45, 3) := by decide +kernel
theorem dX7_lowestGone_13 : decode cX7_lowestGone 13 = .ok (.ifnonnull 9, 3) := by decide +kernel
theorem dX7_lowestGone_16 : decode cX7_lowestGone 16 = .ok (.aload_n 0, 1) := by decide +kernel
theorem dX7_lowestGone_17 : decode cX7_lowestGone 17 = .ok (.iload_n 1, 1) := by decide +kernel
theorem dX7_lowestGone_18 : decode cX7_lowestGone 18 = .ok (.invokevirtual 37, 3) := by decide +kernel
theorem dX7_lowestGone_21 : decode cX7_lowestGone 21 = .ok (.areturn, 1) := by decide +kernel
theorem dX7_lowestGone_22 : decode cX7_lowestGone 22 = .ok (.iinc 1 1, 3) := by decide +kernel
theorem dX7_lowestGone_25 : decode cX7_lowestGone 25 = .ok (.goto (-23), 3) := by decide +kernel
theorem dX7_lowestGone_28 : decode cX7_lowestGone 28 = .ok (.aconst_null, 1) := by decide +kernel
theorem dX7_lowestGone_29 : decode cX7_lowestGone 29 = .ok (.areturn, 1) := by decide +kernel
theorem dX7_howManyAre_0 : decode cX7_howManyAre 0 = .ok (.iconst 0, 1) := by decide +kernel
theorem dX7_howManyAre_1 : decode cX7_howManyAre 1 = .ok (.istore_n 2, 1) := by decide +kernel
theorem dX7_howManyAre_2 : decode cX7_howManyAre 2 = .ok (.iconst 0, 1) := by decide +kernel
theorem dX7_howManyAre_3 : decode cX7_howManyAre 3 = .ok (.istore_n 3, 1) := by decide +kernel
theorem dX7_howManyAre_4 : decode cX7_howManyAre 4 = .ok (.iload_n 3, 1) := by decide +kernel
theorem dX7_howManyAre_5 : decode cX7_howManyAre 5 = .ok (.bipush 6, 2) := by decide +kernel
theorem dX7_howManyAre_7 : decode cX7_howManyAre 7 = .ok (.if_icmp .ge 33, 3) := by decide +kernel
theorem dX7_howManyAre_10 : decode cX7_howManyAre 10 = .ok (.aload_n 0, 1) := by decide +kernel
theorem dX7_howManyAre_11 : decode cX7_howManyAre 11 = .ok (.iload_n 3, 1) := by decide +kernel
theorem dX7_howManyAre_12 : decode cX7_howManyAre 12 = .ok (.invokevirtual 37, 3) := by decide +kernel
theorem dX7_howManyAre_15 : decode cX7_howManyAre 15 = .ok (.astore 4, 2) := by decide +kernel
theorem dX7_howManyAre_17 : decode cX7_howManyAre 17 = .ok (.aload 4, 2) := by decide +kernel
theorem dX7_howManyAre_19 : decode cX7_howManyAre 19 = .ok (.ifnull 15, 3) := by decide +kernel
theorem dX7_howManyAre_22 : decode cX7_howManyAre 22 = .ok (.aload 4, 2) := by decide +kernel
theorem dX7_howManyAre_24 : decode cX7_howManyAre 24 = .ok (.getfield 41, 3) := by decide +kernel
theorem dX7_howManyAre_27 : decode cX7_howManyAre 27 = .ok (.iload_n 1, 1) := by decide +kernel
theorem dX7_howManyAre_28 : decode cX7_howManyAre 28 = .ok (.if_icmp .ne 6, 3) := by decide +kernel
theorem dX7_howManyAre_31 : decode cX7_howManyAre 31 = .ok (.iinc 2 1, 3) := by decide +kernel
theorem dX7_howManyAre_34 : decode cX7_howManyAre 34 = .ok (.iinc 3 1, 3) := by decide +kernel
theorem dX7_howManyAre_37 : decode cX7_howManyAre 37 = .ok (.goto (-33), 3) := by decide +kernel
theorem dX7_howManyAre_40 : decode cX7_howManyAre 40 = .ok (.iload_n 2, 1) := by decide +kernel
theorem dX7_howManyAre_41 : decode cX7_howManyAre 41 = .ok (.ireturn, 1) := by decide +kernel
theorem dX7_howManyHeld_0 : decode cX7_howManyHeld 0 = .ok (.iconst 0, 1) := by decide +kernel
theorem dX7_howManyHeld_1 : decode cX7_howManyHeld 1 = .ok (.istore_n 1, 1) := by decide +kernel
theorem dX7_howManyHeld_2 : decode cX7_howManyHeld 2 = .ok (.iconst 0, 1) := by decide +kernel
theorem dX7_howManyHeld_3 : decode cX7_howManyHeld 3 = .ok (.istore_n 2, 1) := by decide +kernel
theorem dX7_howManyHeld_4 : decode cX7_howManyHeld 4 = .ok (.iload_n 2, 1) := by decide +kernel
theorem dX7_howManyHeld_5 : decode cX7_howManyHeld 5 = .ok (.bipush 6, 2) := by decide +kernel
theorem dX7_howManyHeld_7 : decode cX7_howManyHeld 7 = .ok (.if_icmp .ge 26, 3) := by decide +kernel
theorem dX7_howManyHeld_10 : decode cX7_howManyHeld 10 = .ok (.aload_n 0, 1) := by decide +kernel
theorem dX7_howManyHeld_11 : decode cX7_howManyHeld 11 = .ok (.iload_n 2, 1) := by decide +kernel
theorem dX7_howManyHeld_12 : decode cX7_howManyHeld 12 = .ok (.invokevirtual 45, 3) := by decide +kernel
theorem dX7_howManyHeld_15 : decode cX7_howManyHeld 15 = .ok (.astore_n 3, 1) := by decide +kernel
theorem dX7_howManyHeld_16 : decode cX7_howManyHeld 16 = .ok (.aload_n 3, 1) := by decide +kernel
theorem dX7_howManyHeld_17 : decode cX7_howManyHeld 17 = .ok (.ifnull 10, 3) := by decide +kernel
theorem dX7_howManyHeld_20 : decode cX7_howManyHeld 20 = .ok (.iload_n 1, 1) := by decide +kernel
theorem dX7_howManyHeld_21 : decode cX7_howManyHeld 21 = .ok (.aload_n 3, 1) := by decide +kernel
theorem dX7_howManyHeld_22 : decode cX7_howManyHeld 22 = .ok (.getfield 54, 3) := by decide +kernel
theorem dX7_howManyHeld_25 : decode cX7_howManyHeld 25 = .ok (.iadd, 1) := by decide +kernel
theorem dX7_howManyHeld_26 : decode cX7_howManyHeld 26 = .ok (.istore_n 1, 1) := by decide +kernel
theorem dX7_howManyHeld_27 : decode cX7_howManyHeld 27 = .ok (.iinc 2 1, 3) := by decide +kernel
theorem dX7_howManyHeld_30 : decode cX7_howManyHeld 30 = .ok (.goto (-26), 3) := by decide +kernel
theorem dX7_howManyHeld_33 : decode cX7_howManyHeld 33 = .ok (.iload_n 1, 1) := by decide +kernel
theorem dX7_howManyHeld_34 : decode cX7_howManyHeld 34 = .ok (.ireturn, 1) := by decide +kernel
theorem dX7_letGoReturns_0 : decode cX7_letGoReturns 0 = .ok (.iconst 0, 1) := by decide +kernel
theorem dX7_letGoReturns_1 : decode cX7_letGoReturns 1 = .ok (.istore_n 2, 1) := by decide +kernel
theorem dX7_letGoReturns_2 : decode cX7_letGoReturns 2 = .ok (.iconst 0, 1) := by decide +kernel
theorem dX7_letGoReturns_3 : decode cX7_letGoReturns 3 = .ok (.istore_n 3, 1) := by decide +kernel
theorem dX7_letGoReturns_4 : decode cX7_letGoReturns 4 = .ok (.iload_n 3, 1) := by decide +kernel
theorem dX7_letGoReturns_5 : decode cX7_letGoReturns 5 = .ok (.aload_n 1, 1) := by decide +kernel
theorem dX7_letGoReturns_6 : decode cX7_letGoReturns 6 = .ok (.getfield 57, 3) := by decide +kernel
theorem dX7_letGoReturns_9 : decode cX7_letGoReturns 9 = .ok (.if_icmp .ge 44, 3) := by decide +kernel
theorem dX7_letGoReturns_12 : decode cX7_letGoReturns 12 = .ok (.aload_n 0, 1) := by decide +kernel
theorem dX7_letGoReturns_13 : decode cX7_letGoReturns 13 = .ok (.aload_n 1, 1) := by decide +kernel
theorem dX7_letGoReturns_14 : decode cX7_letGoReturns 14 = .ok (.iload_n 3, 1) := by decide +kernel
theorem dX7_letGoReturns_15 : decode cX7_letGoReturns 15 = .ok (.invokevirtual 60, 3) := by decide +kernel
theorem dX7_letGoReturns_18 : decode cX7_letGoReturns 18 = .ok (.invokevirtual 37, 3) := by decide +kernel
theorem dX7_letGoReturns_21 : decode cX7_letGoReturns 21 = .ok (.astore 4, 2) := by decide +kernel
theorem dX7_letGoReturns_23 : decode cX7_letGoReturns 23 = .ok (.aload 4, 2) := by decide +kernel
theorem dX7_letGoReturns_25 : decode cX7_letGoReturns 25 = .ok (.ifnull 22, 3) := by decide +kernel
theorem dX7_letGoReturns_28 : decode cX7_letGoReturns 28 = .ok (.iinc 2 1, 3) := by decide +kernel
theorem dX7_letGoReturns_31 : decode cX7_letGoReturns 31 = .ok (.aload 4, 2) := by decide +kernel
theorem dX7_letGoReturns_33 : decode cX7_letGoReturns 33 = .ok (.dup, 1) := by decide +kernel
theorem dX7_letGoReturns_34 : decode cX7_letGoReturns 34 = .ok (.getfield 54, 3) := by decide +kernel
theorem dX7_letGoReturns_37 : decode cX7_letGoReturns 37 = .ok (.iconst 1, 1) := by decide +kernel
theorem dX7_letGoReturns_38 : decode cX7_letGoReturns 38 = .ok (.isub, 1) := by decide +kernel
theorem dX7_letGoReturns_39 : decode cX7_letGoReturns 39 = .ok (.putfield 54, 3) := by decide +kernel
theorem dX7_letGoReturns_42 : decode cX7_letGoReturns 42 = .ok (.aload 4, 2) := by decide +kernel
theorem dX7_letGoReturns_44 : decode cX7_letGoReturns 44 = .ok (.invokevirtual 64, 3) := by decide +kernel
theorem dX7_letGoReturns_47 : decode cX7_letGoReturns 47 = .ok (.iinc 3 1, 3) := by decide +kernel
theorem dX7_letGoReturns_50 : decode cX7_letGoReturns 50 = .ok (.goto (-46), 3) := by decide +kernel
theorem dX7_letGoReturns_53 : decode cX7_letGoReturns 53 = .ok (.iload_n 2, 1) := by decide +kernel
theorem dX7_letGoReturns_54 : decode cX7_letGoReturns 54 = .ok (.ireturn, 1) := by decide +kernel
theorem dX7_clear_0 : decode cX7_clear 0 = .ok (.aload_n 0, 1) := by decide +kernel
theorem dX7_clear_1 : decode cX7_clear 1 = .ok (.getfield 12, 3) := by decide +kernel
theorem dX7_clear_4 : decode cX7_clear 4 = .ok (.invokevirtual 67, 3) := by decide +kernel
theorem dX7_clear_7 : decode cX7_clear 7 = .ok (.aload_n 0, 1) := by decide +kernel
theorem dX7_clear_8 : decode cX7_clear 8 = .ok (.getfield 21, 3) := by decide +kernel
theorem dX7_clear_11 : decode cX7_clear 11 = .ok (.invokevirtual 70, 3) := by decide +kernel
theorem dX7_clear_14 : decode cX7_clear 14 = .ok (.aload_n 0, 1) := by decide +kernel
theorem dX7_clear_15 : decode cX7_clear 15 = .ok (.getfield 25, 3) := by decide +kernel
theorem dX7_clear_18 : decode cX7_clear 18 = .ok (.invokevirtual 70, 3) := by decide +kernel
theorem dX7_clear_21 : decode cX7_clear 21 = .ok (.iconst 0, 1) := by decide +kernel
theorem dX7_clear_22 : decode cX7_clear 22 = .ok (.istore_n 1, 1) := by decide +kernel
theorem dX7_clear_23 : decode cX7_clear 23 = .ok (.iload_n 1, 1) := by decide +kernel
theorem dX7_clear_24 : decode cX7_clear 24 = .ok (.bipush 6, 2) := by decide +kernel
theorem dX7_clear_26 : decode cX7_clear 26 = .ok (.if_icmp .ge 24, 3) := by decide +kernel
theorem dX7_clear_29 : decode cX7_clear 29 = .ok (.aload_n 0, 1) := by decide +kernel
theorem dX7_clear_30 : decode cX7_clear 30 = .ok (.iload_n 1, 1) := by decide +kernel
theorem dX7_clear_31 : decode cX7_clear 31 = .ok (.invokevirtual 37, 3) := by decide +kernel
theorem dX7_clear_34 : decode cX7_clear 34 = .ok (.astore_n 2, 1) := by decide +kernel
theorem dX7_clear_35 : decode cX7_clear 35 = .ok (.aload_n 2, 1) := by decide +kernel
theorem dX7_clear_36 : decode cX7_clear 36 = .ok (.ifnull 8, 3) := by decide +kernel
theorem dX7_clear_39 : decode cX7_clear 39 = .ok (.aload_n 2, 1) := by decide +kernel
theorem dX7_clear_40 : decode cX7_clear 40 = .ok (.iconst 3, 1) := by decide +kernel
theorem dX7_clear_41 : decode cX7_clear 41 = .ok (.putfield 41, 3) := by decide +kernel
theorem dX7_clear_44 : decode cX7_clear 44 = .ok (.iinc 1 1, 3) := by decide +kernel
theorem dX7_clear_47 : decode cX7_clear 47 = .ok (.goto (-24), 3) := by decide +kernel
theorem dX7_clear_50 : decode cX7_clear 50 = .ok (.return_, 1) := by decide +kernel
theorem dX7_copyFrom_0 : decode cX7_copyFrom 0 = .ok (.aload_n 0, 1) := by decide +kernel
theorem dX7_copyFrom_1 : decode cX7_copyFrom 1 = .ok (.getfield 12, 3) := by decide +kernel
theorem dX7_copyFrom_4 : decode cX7_copyFrom 4 = .ok (.aload_n 1, 1) := by decide +kernel
theorem dX7_copyFrom_5 : decode cX7_copyFrom 5 = .ok (.getfield 12, 3) := by decide +kernel
theorem dX7_copyFrom_8 : decode cX7_copyFrom 8 = .ok (.invokevirtual 71, 3) := by decide +kernel
theorem dX7_copyFrom_11 : decode cX7_copyFrom 11 = .ok (.aload_n 0, 1) := by decide +kernel
theorem dX7_copyFrom_12 : decode cX7_copyFrom 12 = .ok (.getfield 21, 3) := by decide +kernel
theorem dX7_copyFrom_15 : decode cX7_copyFrom 15 = .ok (.aload_n 1, 1) := by decide +kernel
theorem dX7_copyFrom_16 : decode cX7_copyFrom 16 = .ok (.getfield 21, 3) := by decide +kernel
theorem dX7_copyFrom_19 : decode cX7_copyFrom 19 = .ok (.invokevirtual 75, 3) := by decide +kernel
theorem dX7_copyFrom_22 : decode cX7_copyFrom 22 = .ok (.aload_n 0, 1) := by decide +kernel
theorem dX7_copyFrom_23 : decode cX7_copyFrom 23 = .ok (.getfield 25, 3) := by decide +kernel
theorem dX7_copyFrom_26 : decode cX7_copyFrom 26 = .ok (.aload_n 1, 1) := by decide +kernel
theorem dX7_copyFrom_27 : decode cX7_copyFrom 27 = .ok (.getfield 25, 3) := by decide +kernel
theorem dX7_copyFrom_30 : decode cX7_copyFrom 30 = .ok (.invokevirtual 75, 3) := by decide +kernel
theorem dX7_copyFrom_33 : decode cX7_copyFrom 33 = .ok (.iconst 0, 1) := by decide +kernel
theorem dX7_copyFrom_34 : decode cX7_copyFrom 34 = .ok (.istore_n 2, 1) := by decide +kernel
theorem dX7_copyFrom_35 : decode cX7_copyFrom 35 = .ok (.iload_n 2, 1) := by decide +kernel
theorem dX7_copyFrom_36 : decode cX7_copyFrom 36 = .ok (.bipush 6, 2) := by decide +kernel
theorem dX7_copyFrom_38 : decode cX7_copyFrom 38 = .ok (.if_icmp .ge 37, 3) := by decide +kernel
theorem dX7_copyFrom_41 : decode cX7_copyFrom 41 = .ok (.aload_n 0, 1) := by decide +kernel
theorem dX7_copyFrom_42 : decode cX7_copyFrom 42 = .ok (.iload_n 2, 1) := by decide +kernel
theorem dX7_copyFrom_43 : decode cX7_copyFrom 43 = .ok (.invokevirtual 37, 3) := by decide +kernel
theorem dX7_copyFrom_46 : decode cX7_copyFrom 46 = .ok (.astore_n 3, 1) := by decide +kernel
theorem dX7_copyFrom_47 : decode cX7_copyFrom 47 = .ok (.aload_n 1, 1) := by decide +kernel
theorem dX7_copyFrom_48 : decode cX7_copyFrom 48 = .ok (.iload_n 2, 1) := by decide +kernel
theorem dX7_copyFrom_49 : decode cX7_copyFrom 49 = .ok (.invokevirtual 37, 3) := by decide +kernel
theorem dX7_copyFrom_52 : decode cX7_copyFrom 52 = .ok (.astore 4, 2) := by decide +kernel
theorem dX7_copyFrom_54 : decode cX7_copyFrom 54 = .ok (.aload_n 3, 1) := by decide +kernel
theorem dX7_copyFrom_55 : decode cX7_copyFrom 55 = .ok (.ifnull 14, 3) := by decide +kernel
theorem dX7_copyFrom_58 : decode cX7_copyFrom 58 = .ok (.aload 4, 2) := by decide +kernel
theorem dX7_copyFrom_60 : decode cX7_copyFrom 60 = .ok (.ifnull 9, 3) := by decide +kernel
theorem dX7_copyFrom_63 : decode cX7_copyFrom 63 = .ok (.aload_n 3, 1) := by decide +kernel
theorem dX7_copyFrom_64 : decode cX7_copyFrom 64 = .ok (.aload 4, 2) := by decide +kernel
theorem dX7_copyFrom_66 : decode cX7_copyFrom 66 = .ok (.invokevirtual 78, 3) := by decide +kernel
theorem dX7_copyFrom_69 : decode cX7_copyFrom 69 = .ok (.iinc 2 1, 3) := by decide +kernel
theorem dX7_copyFrom_72 : decode cX7_copyFrom 72 = .ok (.goto (-37), 3) := by decide +kernel
theorem dX7_copyFrom_75 : decode cX7_copyFrom 75 = .ok (.return_, 1) := by decide +kernel
theorem dX8_init_0 : decode cX8_init 0 = .ok (.aload_n 0, 1) := by decide +kernel
theorem dX8_init_1 : decode cX8_init 1 = .ok (.invokespecial 3, 3) := by decide +kernel
theorem dX8_init_4 : decode cX8_init 4 = .ok (.aload_n 0, 1) := by decide +kernel
theorem dX8_init_5 : decode cX8_init 5 = .ok (.iconst 0, 1) := by decide +kernel
theorem dX8_init_6 : decode cX8_init 6 = .ok (.iload_n 1, 1) := by decide +kernel
theorem dX8_init_7 : decode cX8_init 7 = .ok (.invokestatic 9, 3) := by decide +kernel
theorem dX8_init_10 : decode cX8_init 10 = .ok (.newarray .char, 2) := by decide +kernel
theorem dX8_init_12 : decode cX8_init 12 = .ok (.putfield 15, 3) := by decide +kernel
theorem dX8_init_15 : decode cX8_init 15 = .ok (.return_, 1) := by decide +kernel
theorem dX8_add_0 : decode cX8_add 0 = .ok (.aload_n 0, 1) := by decide +kernel
theorem dX8_add_1 : decode cX8_add 1 = .ok (.getfield 21, 3) := by decide +kernel
theorem dX8_add_4 : decode cX8_add 4 = .ok (.ifCond .lt 15, 3) := by decide +kernel
theorem dX8_add_7 : decode cX8_add 7 = .ok (.aload_n 0, 1) := by decide +kernel
theorem dX8_add_8 : decode cX8_add 8 = .ok (.getfield 21, 3) := by decide +kernel
theorem dX8_add_11 : decode cX8_add 11 = .ok (.aload_n 0, 1) := by decide +kernel
theorem dX8_add_12 : decode cX8_add 12 = .ok (.getfield 15, 3) := by decide +kernel
theorem dX8_add_15 : decode cX8_add 15 = .ok (.arraylength, 1) := by decide +kernel
theorem dX8_add_16 : decode cX8_add 16 = .ok (.if_icmp .lt 5, 3) := by decide +kernel
theorem dX8_add_19 : decode cX8_add 19 = .ok (.iconst 0, 1) := by decide +kernel
theorem dX8_add_20 : decode cX8_add 20 = .ok (.ireturn, 1) := by decide +kernel
theorem dX8_add_21 : decode cX8_add 21 = .ok (.aload_n 0, 1) := by decide +kernel
theorem dX8_add_22 : decode cX8_add 22 = .ok (.getfield 15, 3) := by decide +kernel
theorem dX8_add_25 : decode cX8_add 25 = .ok (.aload_n 0, 1) := by decide +kernel
theorem dX8_add_26 : decode cX8_add 26 = .ok (.getfield 21, 3) := by decide +kernel
theorem dX8_add_29 : decode cX8_add 29 = .ok (.iload_n 1, 1) := by decide +kernel
theorem dX8_add_30 : decode cX8_add 30 = .ok (.castore, 1) := by decide +kernel
theorem dX8_add_31 : decode cX8_add 31 = .ok (.aload_n 0, 1) := by decide +kernel
theorem dX8_add_32 : decode cX8_add 32 = .ok (.dup, 1) := by decide +kernel
theorem dX8_add_33 : decode cX8_add 33 = .ok (.getfield 21, 3) := by decide +kernel
theorem dX8_add_36 : decode cX8_add 36 = .ok (.iconst 1, 1) := by decide +kernel
theorem dX8_add_37 : decode cX8_add 37 = .ok (.iadd, 1) := by decide +kernel
theorem dX8_add_38 : decode cX8_add 38 = .ok (.putfield 21, 3) := by decide +kernel
theorem dX8_add_41 : decode cX8_add 41 = .ok (.iconst 1, 1) := by decide +kernel
theorem dX8_add_42 : decode cX8_add 42 = .ok (.ireturn, 1) := by decide +kernel
theorem dX8_clear_0 : decode cX8_clear 0 = .ok (.aload_n 0, 1) := by decide +kernel
theorem dX8_clear_1 : decode cX8_clear 1 = .ok (.iconst 0, 1) := by decide +kernel
theorem dX8_clear_2 : decode cX8_clear 2 = .ok (.putfield 21, 3) := by decide +kernel
theorem dX8_clear_5 : decode cX8_clear 5 = .ok (.return_, 1) := by decide +kernel
theorem dX8_at_0 : decode cX8_at 0 = .ok (.iload_n 1, 1) := by decide +kernel
theorem dX8_at_1 : decode cX8_at 1 = .ok (.ifCond .lt 29, 3) := by decide +kernel
theorem dX8_at_4 : decode cX8_at 4 = .ok (.iload_n 1, 1) := by decide +kernel
theorem dX8_at_5 : decode cX8_at 5 = .ok (.aload_n 0, 1) := by decide +kernel
theorem dX8_at_6 : decode cX8_at 6 = .ok (.getfield 21, 3) := by decide +kernel
theorem dX8_at_9 : decode cX8_at 9 = .ok (.if_icmp .ge 21, 3) := by decide +kernel
theorem dX8_at_12 : decode cX8_at 12 = .ok (.iload_n 1, 1) := by decide +kernel
theorem dX8_at_13 : decode cX8_at 13 = .ok (.aload_n 0, 1) := by decide +kernel
theorem dX8_at_14 : decode cX8_at 14 = .ok (.getfield 15, 3) := by decide +kernel
theorem dX8_at_17 : decode cX8_at 17 = .ok (.arraylength, 1) := by decide +kernel
theorem dX8_at_18 : decode cX8_at 18 = .ok (.if_icmp .ge 12, 3) := by decide +kernel
theorem dX8_at_21 : decode cX8_at 21 = .ok (.aload_n 0, 1) := by decide +kernel
theorem dX8_at_22 : decode cX8_at 22 = .ok (.getfield 15, 3) := by decide +kernel
theorem dX8_at_25 : decode cX8_at 25 = .ok (.iload_n 1, 1) := by decide +kernel
theorem dX8_at_26 : decode cX8_at 26 = .ok (.caload, 1) := by decide +kernel
theorem dX8_at_27 : decode cX8_at 27 = .ok (.goto 4, 3) := by decide +kernel
theorem dX8_at_30 : decode cX8_at 30 = .ok (.iconst 0, 1) := by decide +kernel
theorem dX8_at_31 : decode cX8_at 31 = .ok (.ireturn, 1) := by decide +kernel
theorem dX8_figureAt_0 : decode cX8_figureAt 0 = .ok (.aload_n 0, 1) := by decide +kernel
theorem dX8_figureAt_1 : decode cX8_figureAt 1 = .ok (.iload_n 1, 1) := by decide +kernel
theorem dX8_figureAt_2 : decode cX8_figureAt 2 = .ok (.invokevirtual 25, 3) := by decide +kernel
theorem dX8_figureAt_5 : decode cX8_figureAt 5 = .ok (.istore_n 2, 1) := by decide +kernel
theorem dX8_figureAt_6 : decode cX8_figureAt 6 = .ok (.iload_n 2, 1) := by decide +kernel
theorem dX8_figureAt_7 : decode cX8_figureAt 7 = .ok (.bipush 48, 2) := by decide +kernel
theorem dX8_figureAt_9 : decode cX8_figureAt 9 = .ok (.if_icmp .lt 16, 3) := by decide +kernel
theorem dX8_figureAt_12 : decode cX8_figureAt 12 = .ok (.iload_n 2, 1) := by decide +kernel
theorem dX8_figureAt_13 : decode cX8_figureAt 13 = .ok (.bipush 57, 2) := by decide +kernel
theorem dX8_figureAt_15 : decode cX8_figureAt 15 = .ok (.if_icmp .gt 10, 3) := by decide +kernel
theorem dX8_figureAt_18 : decode cX8_figureAt 18 = .ok (.iload_n 2, 1) := by decide +kernel
theorem dX8_figureAt_19 : decode cX8_figureAt 19 = .ok (.bipush 48, 2) := by decide +kernel
theorem dX8_figureAt_21 : decode cX8_figureAt 21 = .ok (.isub, 1) := by decide +kernel
theorem dX8_figureAt_22 : decode cX8_figureAt 22 = .ok (.goto 5, 3) := by decide +kernel
theorem dX8_figureAt_25 : decode cX8_figureAt 25 = .ok (.bipush (-4), 2) := by decide +kernel
theorem dX8_figureAt_27 : decode cX8_figureAt 27 = .ok (.ireturn, 1) := by decide +kernel
theorem dX8_copy_0 : decode cX8_copy 0 = .ok (.new 16, 3) := by decide +kernel
theorem dX8_copy_3 : decode cX8_copy 3 = .ok (.dup, 1) := by decide +kernel
theorem dX8_copy_4 : decode cX8_copy 4 = .ok (.aload_n 0, 1) := by decide +kernel
theorem dX8_copy_5 : decode cX8_copy 5 = .ok (.getfield 21, 3) := by decide +kernel
theorem dX8_copy_8 : decode cX8_copy 8 = .ok (.invokespecial 29, 3) := by decide +kernel
theorem dX8_copy_11 : decode cX8_copy 11 = .ok (.astore_n 1, 1) := by decide +kernel
theorem dX8_copy_12 : decode cX8_copy 12 = .ok (.iconst 0, 1) := by decide +kernel
theorem dX8_copy_13 : decode cX8_copy 13 = .ok (.istore_n 2, 1) := by decide +kernel
theorem dX8_copy_14 : decode cX8_copy 14 = .ok (.iload_n 2, 1) := by decide +kernel
theorem dX8_copy_15 : decode cX8_copy 15 = .ok (.aload_n 0, 1) := by decide +kernel
theorem dX8_copy_16 : decode cX8_copy 16 = .ok (.getfield 21, 3) := by decide +kernel
theorem dX8_copy_19 : decode cX8_copy 19 = .ok (.if_icmp .ge 19, 3) := by decide +kernel
theorem dX8_copy_22 : decode cX8_copy 22 = .ok (.aload_n 1, 1) := by decide +kernel
theorem dX8_copy_23 : decode cX8_copy 23 = .ok (.aload_n 0, 1) := by decide +kernel
theorem dX8_copy_24 : decode cX8_copy 24 = .ok (.iload_n 2, 1) := by decide +kernel
theorem dX8_copy_25 : decode cX8_copy 25 = .ok (.invokevirtual 25, 3) := by decide +kernel
theorem dX8_copy_28 : decode cX8_copy 28 = .ok (.invokevirtual 32, 3) := by decide +kernel
theorem dX8_copy_31 : decode cX8_copy 31 = .ok (.pop, 1) := by decide +kernel
theorem dX8_copy_32 : decode cX8_copy 32 = .ok (.iinc 2 1, 3) := by decide +kernel
theorem dX8_copy_35 : decode cX8_copy 35 = .ok (.goto (-21), 3) := by decide +kernel
theorem dX8_copy_38 : decode cX8_copy 38 = .ok (.aload_n 1, 1) := by decide +kernel
theorem dX8_copy_39 : decode cX8_copy 39 = .ok (.areturn, 1) := by decide +kernel
theorem dX9_init_0 : decode cX9_init 0 = .ok (.aload_n 0, 1) := by decide +kernel
theorem dX9_init_1 : decode cX9_init 1 = .ok (.invokespecial 1, 3) := by decide +kernel
theorem dX9_init_4 : decode cX9_init 4 = .ok (.aload_n 0, 1) := by decide +kernel
theorem dX9_init_5 : decode cX9_init 5 = .ok (.new 7, 3) := by decide +kernel
theorem dX9_init_8 : decode cX9_init 8 = .ok (.dup, 1) := by decide +kernel
theorem dX9_init_9 : decode cX9_init 9 = .ok (.sipush 200, 3) := by decide +kernel
theorem dX9_init_12 : decode cX9_init 12 = .ok (.invokespecial 11, 3) := by decide +kernel
theorem dX9_init_15 : decode cX9_init 15 = .ok (.putfield 14, 3) := by decide +kernel
theorem dX9_init_18 : decode cX9_init 18 = .ok (.aload_n 0, 1) := by decide +kernel
theorem dX9_init_19 : decode cX9_init 19 = .ok (.new 18, 3) := by decide +kernel
theorem dX9_init_22 : decode cX9_init 22 = .ok (.dup, 1) := by decide +kernel
theorem dX9_init_23 : decode cX9_init 23 = .ok (.invokespecial 20, 3) := by decide +kernel
theorem dX9_init_26 : decode cX9_init 26 = .ok (.putfield 21, 3) := by decide +kernel
theorem dX9_init_29 : decode cX9_init 29 = .ok (.aload_n 0, 1) := by decide +kernel
theorem dX9_init_30 : decode cX9_init 30 = .ok (.new 18, 3) := by decide +kernel
theorem dX9_init_33 : decode cX9_init 33 = .ok (.dup, 1) := by decide +kernel
theorem dX9_init_34 : decode cX9_init 34 = .ok (.invokespecial 20, 3) := by decide +kernel
theorem dX9_init_37 : decode cX9_init 37 = .ok (.putfield 25, 3) := by decide +kernel
theorem dX9_init_40 : decode cX9_init 40 = .ok (.aload_n 0, 1) := by decide +kernel
theorem dX9_init_41 : decode cX9_init 41 = .ok (.new 28, 3) := by decide +kernel
theorem dX9_init_44 : decode cX9_init 44 = .ok (.dup, 1) := by decide +kernel
theorem dX9_init_45 : decode cX9_init 45 = .ok (.invokespecial 30, 3) := by decide +kernel
theorem dX9_init_48 : decode cX9_init 48 = .ok (.putfield 31, 3) := by decide +kernel
theorem dX9_init_51 : decode cX9_init 51 = .ok (.aload_n 0, 1) := by decide +kernel
theorem dX9_init_52 : decode cX9_init 52 = .ok (.new 35, 3) := by decide +kernel
theorem dX9_init_55 : decode cX9_init 55 = .ok (.dup, 1) := by decide +kernel
theorem dX9_init_56 : decode cX9_init 56 = .ok (.invokespecial 37, 3) := by decide +kernel
theorem dX9_init_59 : decode cX9_init 59 = .ok (.putfield 38, 3) := by decide +kernel
theorem dX9_init_62 : decode cX9_init 62 = .ok (.aload_n 0, 1) := by decide +kernel
theorem dX9_init_63 : decode cX9_init 63 = .ok (.new 42, 3) := by decide +kernel
theorem dX9_init_66 : decode cX9_init 66 = .ok (.dup, 1) := by decide +kernel
theorem dX9_init_67 : decode cX9_init 67 = .ok (.invokespecial 44, 3) := by decide +kernel
theorem dX9_init_70 : decode cX9_init 70 = .ok (.putfield 45, 3) := by decide +kernel
theorem dX9_init_73 : decode cX9_init 73 = .ok (.aload_n 0, 1) := by decide +kernel
theorem dX9_init_74 : decode cX9_init 74 = .ok (.new 49, 3) := by decide +kernel
theorem dX9_init_77 : decode cX9_init 77 = .ok (.dup, 1) := by decide +kernel
theorem dX9_init_78 : decode cX9_init 78 = .ok (.invokespecial 51, 3) := by decide +kernel
theorem dX9_init_81 : decode cX9_init 81 = .ok (.putfield 52, 3) := by decide +kernel
theorem dX9_init_84 : decode cX9_init 84 = .ok (.aload_n 0, 1) := by decide +kernel
theorem dX9_init_85 : decode cX9_init 85 = .ok (.new 56, 3) := by decide +kernel
theorem dX9_init_88 : decode cX9_init 88 = .ok (.dup, 1) := by decide +kernel
theorem dX9_init_89 : decode cX9_init 89 = .ok (.invokespecial 58, 3) := by decide +kernel
theorem dX9_init_92 : decode cX9_init 92 = .ok (.putfield 59, 3) := by decide +kernel
theorem dX9_init_95 : decode cX9_init 95 = .ok (.iconst 0, 1) := by decide +kernel
theorem dX9_init_96 : decode cX9_init 96 = .ok (.istore_n 1, 1) := by decide +kernel
theorem dX9_init_97 : decode cX9_init 97 = .ok (.iload_n 1, 1) := by decide +kernel
theorem dX9_init_98 : decode cX9_init 98 = .ok (.ldc 63, 2) := by decide +kernel
theorem dX9_init_100 : decode cX9_init 100 = .ok (.invokevirtual 65, 3) := by decide +kernel
theorem dX9_init_103 : decode cX9_init 103 = .ok (.if_icmp .ge 23, 3) := by decide +kernel
theorem dX9_init_106 : decode cX9_init 106 = .ok (.aload_n 0, 1) := by decide +kernel
theorem dX9_init_107 : decode cX9_init 107 = .ok (.getfield 14, 3) := by decide +kernel
theorem dX9_init_110 : decode cX9_init 110 = .ok (.ldc 63, 2) := by decide +kernel
theorem dX9_init_112 : decode cX9_init 112 = .ok (.iload_n 1, 1) := by decide +kernel
theorem dX9_init_113 : decode cX9_init 113 = .ok (.invokevirtual 71, 3) := by decide +kernel
theorem dX9_init_116 : decode cX9_init 116 = .ok (.invokevirtual 75, 3) := by decide +kernel
theorem dX9_init_119 : decode cX9_init 119 = .ok (.pop, 1) := by decide +kernel
theorem dX9_init_120 : decode cX9_init 120 = .ok (.iinc 1 1, 3) := by decide +kernel
theorem dX9_init_123 : decode cX9_init 123 = .ok (.goto (-26), 3) := by decide +kernel
theorem dX9_init_126 : decode cX9_init 126 = .ok (.aload_n 0, 1) := by decide +kernel
theorem dX9_init_127 : decode cX9_init 127 = .ok (.getfield 21, 3) := by decide +kernel
theorem dX9_init_130 : decode cX9_init 130 = .ok (.aload_n 0, 1) := by decide +kernel
theorem dX9_init_131 : decode cX9_init 131 = .ok (.getfield 14, 3) := by decide +kernel
theorem dX9_init_134 : decode cX9_init 134 = .ok (.invokevirtual 79, 3) := by decide +kernel
theorem dX9_init_137 : decode cX9_init 137 = .ok (.pop, 1) := by decide +kernel
theorem dX9_init_138 : decode cX9_init 138 = .ok (.aload_n 0, 1) := by decide +kernel
theorem dX9_init_139 : decode cX9_init 139 = .ok (.getfield 14, 3) := by decide +kernel
theorem dX9_init_142 : decode cX9_init 142 = .ok (.invokevirtual 83, 3) := by decide +kernel
theorem dX9_init_145 : decode cX9_init 145 = .ok (.return_, 1) := by decide +kernel
theorem dX9_write_0 : decode cX9_write 0 = .ok (.iload_n 1, 1) := by decide +kernel
theorem dX9_write_1 : decode cX9_write 1 = .ok (.bipush 32, 2) := by decide +kernel
theorem dX9_write_3 : decode cX9_write 3 = .ok (.bipush 126, 2) := by decide +kernel
theorem dX9_write_5 : decode cX9_write 5 = .ok (.invokestatic 86, 3) := by decide +kernel
theorem dX9_write_8 : decode cX9_write 8 = .ok (.ifCond .ne 5, 3) := by decide +kernel
theorem dX9_write_11 : decode cX9_write 11 = .ok (.iconst (-1), 1) := by decide +kernel
theorem dX9_write_12 : decode cX9_write 12 = .ok (.ireturn, 1) := by decide +kernel
theorem dX9_write_13 : decode cX9_write 13 = .ok (.aload_n 0, 1) := by decide +kernel
theorem dX9_write_14 : decode cX9_write 14 = .ok (.getfield 14, 3) := by decide +kernel
theorem dX9_write_17 : decode cX9_write 17 = .ok (.iload_n 1, 1) := by decide +kernel
theorem dX9_write_18 : decode cX9_write 18 = .ok (.i2c, 1) := by decide +kernel
theorem dX9_write_19 : decode cX9_write 19 = .ok (.invokevirtual 75, 3) := by decide +kernel
theorem dX9_write_22 : decode cX9_write 22 = .ok (.ifCond .eq 13, 3) := by decide +kernel
theorem dX9_write_25 : decode cX9_write 25 = .ok (.aload_n 0, 1) := by decide +kernel
theorem dX9_write_26 : decode cX9_write 26 = .ok (.getfield 14, 3) := by decide +kernel
theorem dX9_write_29 : decode cX9_write 29 = .ok (.getfield 90, 3) := by decide +kernel
theorem dX9_write_32 : decode cX9_write 32 = .ok (.goto 5, 3) := by decide +kernel
theorem dX9_write_35 : decode cX9_write 35 = .ok (.bipush (-3), 2) := by decide +kernel
theorem dX9_write_37 : decode cX9_write 37 = .ok (.ireturn, 1) := by decide +kernel
theorem dX9_wipe_0 : decode cX9_wipe 0 = .ok (.aload_n 0, 1) := by decide +kernel
theorem dX9_wipe_1 : decode cX9_wipe 1 = .ok (.getfield 14, 3) := by decide +kernel
theorem dX9_wipe_4 : decode cX9_wipe 4 = .ok (.getfield 90, 3) := by decide +kernel
theorem dX9_wipe_7 : decode cX9_wipe 7 = .ok (.istore_n 1, 1) := by decide +kernel
theorem dX9_wipe_8 : decode cX9_wipe 8 = .ok (.aload_n 0, 1) := by decide +kernel
theorem dX9_wipe_9 : decode cX9_wipe 9 = .ok (.getfield 14, 3) := by decide +kernel
theorem dX9_wipe_12 : decode cX9_wipe 12 = .ok (.invokevirtual 83, 3) := by decide +kernel
theorem dX9_wipe_15 : decode cX9_wipe 15 = .ok (.iload_n 1, 1) := by decide +kernel
theorem dX9_wipe_16 : decode cX9_wipe 16 = .ok (.ireturn, 1) := by decide +kernel
theorem dX9_fault_0 : decode cX9_fault 0 = .ok (.aload_n 0, 1) := by decide +kernel
theorem dX9_fault_1 : decode cX9_fault 1 = .ok (.getfield 25, 3) := by decide +kernel
theorem dX9_fault_4 : decode cX9_fault 4 = .ok (.aload_n 0, 1) := by decide +kernel
theorem dX9_fault_5 : decode cX9_fault 5 = .ok (.getfield 14, 3) := by decide +kernel
theorem dX9_fault_8 : decode cX9_fault 8 = .ok (.invokevirtual 79, 3) := by decide +kernel
theorem dX9_fault_11 : decode cX9_fault 11 = .ok (.ireturn, 1) := by decide +kernel
theorem dX9_lay_0 : decode cX9_lay 0 = .ok (.aload_n 0, 1) := by decide +kernel
theorem dX9_lay_1 : decode cX9_lay 1 = .ok (.getfield 14, 3) := by decide +kernel
theorem dX9_lay_4 : decode cX9_lay 4 = .ok (.getfield 90, 3) := by decide +kernel
theorem dX9_lay_7 : decode cX9_lay 7 = .ok (.ifCond .eq 19, 3) := by decide +kernel
theorem dX9_lay_10 : decode cX9_lay 10 = .ok (.aload_n 0, 1) := by decide +kernel
theorem dX9_lay_11 : decode cX9_lay 11 = .ok (.getfield 25, 3) := by decide +kernel
theorem dX9_lay_14 : decode cX9_lay 14 = .ok (.aload_n 0, 1) := by decide +kernel
theorem dX9_lay_15 : decode cX9_lay 15 = .ok (.getfield 14, 3) := by decide +kernel
theorem dX9_lay_18 : decode cX9_lay 18 = .ok (.invokevirtual 79, 3) := by decide +kernel
theorem dX9_lay_21 : decode cX9_lay 21 = .ok (.bipush (-4), 2) := by decide +kernel
theorem dX9_lay_23 : decode cX9_lay 23 = .ok (.if_icmp .eq 6, 3) := by decide +kernel
theorem dX9_lay_26 : decode cX9_lay 26 = .ok (.bipush (-2), 2) := by decide +kernel
theorem dX9_lay_28 : decode cX9_lay 28 = .ok (.ireturn, 1) := by decide +kernel
theorem dX9_lay_29 : decode cX9_lay 29 = .ok (.aload_n 0, 1) := by decide +kernel
theorem dX9_lay_30 : decode cX9_lay 30 = .ok (.getfield 21, 3) := by decide +kernel
theorem dX9_lay_33 : decode cX9_lay 33 = .ok (.aload_n 0, 1) := by decide +kernel
theorem dX9_lay_34 : decode cX9_lay 34 = .ok (.getfield 14, 3) := by decide +kernel
theorem dX9_lay_37 : decode cX9_lay 37 = .ok (.invokevirtual 79, 3) := by decide +kernel
theorem dX9_lay_40 : decode cX9_lay 40 = .ok (.pop, 1) := by decide +kernel
theorem dX9_lay_41 : decode cX9_lay 41 = .ok (.aload_n 0, 1) := by decide +kernel
theorem dX9_lay_42 : decode cX9_lay 42 = .ok (.getfield 31, 3) := by decide +kernel
theorem dX9_lay_45 : decode cX9_lay 45 = .ok (.invokevirtual 93, 3) := by decide +kernel
theorem dX9_lay_48 : decode cX9_lay 48 = .ok (.aload_n 0, 1) := by decide +kernel
theorem dX9_lay_49 : decode cX9_lay 49 = .ok (.getfield 38, 3) := by decide +kernel
theorem dX9_lay_52 : decode cX9_lay 52 = .ok (.invokevirtual 94, 3) := by decide +kernel
theorem dX9_lay_55 : decode cX9_lay 55 = .ok (.aload_n 0, 1) := by decide +kernel
theorem dX9_lay_56 : decode cX9_lay 56 = .ok (.getfield 21, 3) := by decide +kernel
theorem dX9_lay_59 : decode cX9_lay 59 = .ok (.getfield 95, 3) := by decide +kernel
theorem dX9_lay_62 : decode cX9_lay 62 = .ok (.getfield 90, 3) := by decide +kernel
theorem dX9_lay_65 : decode cX9_lay 65 = .ok (.ireturn, 1) := by decide +kernel
theorem dX9_probe_0 : decode cX9_probe 0 = .ok (.iload_n 1, 1) := by decide +kernel
theorem dX9_probe_1 : decode cX9_probe 1 = .ok (.iconst 0, 1) := by decide +kernel
theorem dX9_probe_2 : decode cX9_probe 2 = .ok (.iconst 1, 1) := by decide +kernel
theorem dX9_probe_3 : decode cX9_probe 3 = .ok (.invokestatic 86, 3) := by decide +kernel
theorem dX9_probe_6 : decode cX9_probe 6 = .ok (.ifCond .eq 14, 3) := by decide +kernel
theorem dX9_probe_9 : decode cX9_probe 9 = .ok (.aload_n 0, 1) := by decide +kernel
theorem dX9_probe_10 : decode cX9_probe 10 = .ok (.getfield 21, 3) := by decide +kernel
theorem dX9_probe_13 : decode cX9_probe 13 = .ok (.iload_n 2, 1) := by decide +kernel
theorem dX9_probe_14 : decode cX9_probe 14 = .ok (.invokevirtual 98, 3) := by decide +kernel
theorem dX9_probe_17 : decode cX9_probe 17 = .ok (.ifCond .ne 5, 3) := by decide +kernel
theorem dX9_probe_20 : decode cX9_probe 20 = .ok (.iconst (-1), 1) := by decide +kernel
theorem dX9_probe_21 : decode cX9_probe 21 = .ok (.ireturn, 1) := by decide +kernel
theorem dX9_probe_22 : decode cX9_probe 22 = .ok (.aload_n 0, 1) := by decide +kernel
theorem dX9_probe_23 : decode cX9_probe 23 = .ok (.getfield 21, 3) := by decide +kernel
theorem dX9_probe_26 : decode cX9_probe 26 = .ok (.iload_n 2, 1) := by decide +kernel
theorem dX9_probe_27 : decode cX9_probe 27 = .ok (.invokevirtual 102, 3) := by decide +kernel
theorem dX9_probe_30 : decode cX9_probe 30 = .ok (.ifCond .eq 14, 3) := by decide +kernel
theorem dX9_probe_33 : decode cX9_probe 33 = .ok (.aload_n 0, 1) := by decide +kernel
theorem dX9_probe_34 : decode cX9_probe 34 = .ok (.getfield 31, 3) := by decide +kernel
theorem dX9_probe_37 : decode cX9_probe 37 = .ok (.iload_n 2, 1) := by decide +kernel
theorem dX9_probe_38 : decode cX9_probe 38 = .ok (.invokevirtual 105, 3) := by decide +kernel
theorem dX9_probe_41 : decode cX9_probe 41 = .ok (.ifnull 6, 3) := by decide +kernel
theorem dX9_probe_44 : decode cX9_probe 44 = .ok (.bipush (-2), 2) := by decide +kernel
theorem dX9_probe_46 : decode cX9_probe 46 = .ok (.ireturn, 1) := by decide +kernel
theorem dX9_probe_47 : decode cX9_probe 47 = .ok (.aload_n 0, 1) := by decide +kernel
theorem dX9_probe_48 : decode cX9_probe 48 = .ok (.getfield 31, 3) := by decide +kernel
theorem dX9_probe_51 : decode cX9_probe 51 = .ok (.invokevirtual 109, 3) := by decide +kernel
theorem dX9_probe_54 : decode cX9_probe 54 = .ok (.astore_n 3, 1) := by decide +kernel
theorem dX9_probe_55 : decode cX9_probe 55 = .ok (.aload_n 3, 1) := by decide +kernel
theorem dX9_probe_56 : decode cX9_probe 56 = .ok (.ifnonnull 6, 3) := by decide +kernel
theorem dX9_probe_59 : decode cX9_probe 59 = .ok (.bipush (-3), 2) := by decide +kernel
theorem dX9_probe_61 : decode cX9_probe 61 = .ok (.ireturn, 1) := by decide +kernel
theorem dX9_probe_62 : decode cX9_probe 62 = .ok (.aload_n 0, 1) := by decide +kernel
theorem dX9_probe_63 : decode cX9_probe 63 = .ok (.getfield 38, 3) := by decide +kernel
theorem dX9_probe_66 : decode cX9_probe 66 = .ok (.aload_n 0, 1) := by decide +kernel
theorem dX9_probe_67 : decode cX9_probe 67 = .ok (.getfield 31, 3) := by decide +kernel
theorem dX9_probe_70 : decode cX9_probe 70 = .ok (.invokevirtual 113, 3) := by decide +kernel
theorem dX9_probe_73 : decode cX9_probe 73 = .ok (.aload_n 3, 1) := by decide +kernel
theorem dX9_probe_74 : decode cX9_probe 74 = .ok (.iload_n 1, 1) := by decide +kernel
theorem dX9_probe_75 : decode cX9_probe 75 = .ok (.iload_n 2, 1) := by decide +kernel
theorem dX9_probe_76 : decode cX9_probe 76 = .ok (.invokevirtual 117, 3) := by decide +kernel
theorem dX9_probe_79 : decode cX9_probe 79 = .ok (.aload_n 3, 1) := by decide +kernel
theorem dX9_probe_80 : decode cX9_probe 80 = .ok (.getfield 123, 3) := by decide +kernel
theorem dX9_probe_83 : decode cX9_probe 83 = .ok (.ireturn, 1) := by decide +kernel
theorem dX9_turn_0 : decode cX9_turn 0 = .ok (.aload_n 0, 1) := by decide +kernel
theorem dX9_turn_1 : decode cX9_turn 1 = .ok (.getfield 31, 3) := by decide +kernel
theorem dX9_turn_4 : decode cX9_turn 4 = .ok (.iload_n 1, 1) := by decide +kernel
theorem dX9_turn_5 : decode cX9_turn 5 = .ok (.invokevirtual 126, 3) := by decide +kernel
theorem dX9_turn_8 : decode cX9_turn 8 = .ok (.astore_n 3, 1) := by decide +kernel
theorem dX9_turn_9 : decode cX9_turn 9 = .ok (.aload_n 3, 1) := by decide +kernel
theorem dX9_turn_10 : decode cX9_turn 10 = .ok (.ifnull 12, 3) := by decide +kernel
theorem dX9_turn_13 : decode cX9_turn 13 = .ok (.iload_n 2, 1) := by decide +kernel
theorem dX9_turn_14 : decode cX9_turn 14 = .ok (.iconst 0, 1) := by decide +kernel
theorem dX9_turn_15 : decode cX9_turn 15 = .ok (.iconst 1, 1) := by decide +kernel
theorem dX9_turn_16 : decode cX9_turn 16 = .ok (.invokestatic 86, 3) := by decide +kernel
theorem dX9_turn_19 : decode cX9_turn 19 = .ok (.ifCond .ne 5, 3) := by decide +kernel
theorem dX9_turn_22 : decode cX9_turn 22 = .ok (.iconst (-1), 1) := by decide +kernel
theorem dX9_turn_23 : decode cX9_turn 23 = .ok (.ireturn, 1) := by decide +kernel
theorem dX9_turn_24 : decode cX9_turn 24 = .ok (.iload_n 2, 1) := by decide +kernel
theorem dX9_turn_25 : decode cX9_turn 25 = .ok (.iconst 1, 1) := by decide +kernel
theorem dX9_turn_26 : decode cX9_turn 26 = .ok (.if_icmp .ne 7, 3) := by decide +kernel
theorem dX9_turn_29 : decode cX9_turn 29 = .ok (.iconst 0, 1) := by decide +kernel
theorem dX9_turn_30 : decode cX9_turn 30 = .ok (.goto 4, 3) := by decide +kernel
theorem dX9_turn_33 : decode cX9_turn 33 = .ok (.iconst 1, 1) := by decide +kernel
theorem dX9_turn_34 : decode cX9_turn 34 = .ok (.istore 4, 2) := by decide +kernel
theorem dX9_turn_36 : decode cX9_turn 36 = .ok (.aload_n 3, 1) := by decide +kernel
theorem dX9_turn_37 : decode cX9_turn 37 = .ok (.getfield 129, 3) := by decide +kernel
theorem dX9_turn_40 : decode cX9_turn 40 = .ok (.iconst 2, 1) := by decide +kernel
theorem dX9_turn_41 : decode cX9_turn 41 = .ok (.if_icmp .eq 12, 3) := by decide +kernel
theorem dX9_turn_44 : decode cX9_turn 44 = .ok (.aload_n 3, 1) := by decide +kernel
theorem dX9_turn_45 : decode cX9_turn 45 = .ok (.getfield 129, 3) := by decide +kernel
theorem dX9_turn_48 : decode cX9_turn 48 = .ok (.iload 4, 2) := by decide +kernel
theorem dX9_turn_50 : decode cX9_turn 50 = .ok (.if_icmp .ne 6, 3) := by decide +kernel
theorem dX9_turn_53 : decode cX9_turn 53 = .ok (.bipush (-2), 2) := by decide +kernel
theorem dX9_turn_55 : decode cX9_turn 55 = .ok (.ireturn, 1) := by decide +kernel
theorem dX9_turn_56 : decode cX9_turn 56 = .ok (.aload_n 0, 1) := by decide +kernel
theorem dX9_turn_57 : decode cX9_turn 57 = .ok (.getfield 38, 3) := by decide +kernel
theorem dX9_turn_60 : decode cX9_turn 60 = .ok (.aload_n 0, 1) := by decide +kernel
theorem dX9_turn_61 : decode cX9_turn 61 = .ok (.getfield 31, 3) := by decide +kernel
theorem dX9_turn_64 : decode cX9_turn 64 = .ok (.invokevirtual 113, 3) := by decide +kernel
theorem dX9_turn_67 : decode cX9_turn 67 = .ok (.aload_n 3, 1) := by decide +kernel
theorem dX9_turn_68 : decode cX9_turn 68 = .ok (.iload 4, 2) := by decide +kernel
theorem dX9_turn_70 : decode cX9_turn 70 = .ok (.putfield 129, 3) := by decide +kernel
theorem dX9_turn_73 : decode cX9_turn 73 = .ok (.aload_n 0, 1) := by decide +kernel
theorem dX9_turn_74 : decode cX9_turn 74 = .ok (.getfield 31, 3) := by decide +kernel
theorem dX9_turn_77 : decode cX9_turn 77 = .ok (.iconst 0, 1) := by decide +kernel
theorem dX9_turn_78 : decode cX9_turn 78 = .ok (.invokevirtual 132, 3) := by decide +kernel
theorem dX9_turn_81 : decode cX9_turn 81 = .ok (.ireturn, 1) := by decide +kernel
theorem dX9_remove_0 : decode cX9_remove 0 = .ok (.aload_n 0, 1) := by decide +kernel
theorem dX9_remove_1 : decode cX9_remove 1 = .ok (.getfield 31, 3) := by decide +kernel
theorem dX9_remove_4 : decode cX9_remove 4 = .ok (.iload_n 1, 1) := by decide +kernel
theorem dX9_remove_5 : decode cX9_remove 5 = .ok (.invokevirtual 126, 3) := by decide +kernel
theorem dX9_remove_8 : decode cX9_remove 8 = .ok (.astore_n 2, 1) := by decide +kernel
theorem dX9_remove_9 : decode cX9_remove 9 = .ok (.aload_n 2, 1) := by decide +kernel
theorem dX9_remove_10 : decode cX9_remove 10 = .ok (.ifnonnull 5, 3) := by decide +kernel
theorem dX9_remove_13 : decode cX9_remove 13 = .ok (.iconst (-1), 1) := by decide +kernel
theorem dX9_remove_14 : decode cX9_remove 14 = .ok (.ireturn, 1) := by decide +kernel
theorem dX9_remove_15 : decode cX9_remove 15 = .ok (.aload_n 2, 1) := by decide +kernel
theorem dX9_remove_16 : decode cX9_remove 16 = .ok (.getfield 129, 3) := by decide +kernel
theorem dX9_remove_19 : decode cX9_remove 19 = .ok (.iconst 2, 1) := by decide +kernel
theorem dX9_remove_20 : decode cX9_remove 20 = .ok (.if_icmp .ne 6, 3) := by decide +kernel
theorem dX9_remove_23 : decode cX9_remove 23 = .ok (.bipush (-2), 2) := by decide +kernel
theorem dX9_remove_25 : decode cX9_remove 25 = .ok (.ireturn, 1) := by decide +kernel
theorem dX9_remove_26 : decode cX9_remove 26 = .ok (.aload_n 0, 1) := by decide +kernel
theorem dX9_remove_27 : decode cX9_remove 27 = .ok (.getfield 38, 3) := by decide +kernel
theorem dX9_remove_30 : decode cX9_remove 30 = .ok (.aload_n 0, 1) := by decide +kernel
theorem dX9_remove_31 : decode cX9_remove 31 = .ok (.getfield 31, 3) := by decide +kernel
theorem dX9_remove_34 : decode cX9_remove 34 = .ok (.invokevirtual 113, 3) := by decide +kernel
theorem dX9_remove_37 : decode cX9_remove 37 = .ok (.aload_n 2, 1) := by decide +kernel
theorem dX9_remove_38 : decode cX9_remove 38 = .ok (.iconst 2, 1) := by decide +kernel
theorem dX9_remove_39 : decode cX9_remove 39 = .ok (.putfield 129, 3) := by decide +kernel
theorem dX9_remove_42 : decode cX9_remove 42 = .ok (.aload_n 2, 1) := by decide +kernel
theorem dX9_remove_43 : decode cX9_remove 43 = .ok (.invokevirtual 136, 3) := by decide +kernel
theorem dX9_remove_46 : decode cX9_remove 46 = .ok (.aload_n 2, 1) := by decide +kernel
theorem dX9_remove_47 : decode cX9_remove 47 = .ok (.getfield 129, 3) := by decide +kernel
theorem dX9_remove_50 : decode cX9_remove 50 = .ok (.iconst 3, 1) := by decide +kernel
theorem dX9_remove_51 : decode cX9_remove 51 = .ok (.if_icmp .ne 7, 3) := by decide +kernel
theorem dX9_remove_54 : decode cX9_remove 54 = .ok (.iconst 1, 1) := by decide +kernel
theorem dX9_remove_55 : decode cX9_remove 55 = .ok (.goto 4, 3) := by decide +kernel
theorem dX9_remove_58 : decode cX9_remove 58 = .ok (.iconst 0, 1) := by decide +kernel
theorem dX9_remove_59 : decode cX9_remove 59 = .ok (.ireturn, 1) := by decide +kernel
theorem dX9_filter_0 : decode cX9_filter 0 = .ok (.aload_n 0, 1) := by decide +kernel
theorem dX9_filter_1 : decode cX9_filter 1 = .ok (.getfield 31, 3) := by decide +kernel
theorem dX9_filter_4 : decode cX9_filter 4 = .ok (.iload_n 1, 1) := by decide +kernel
theorem dX9_filter_5 : decode cX9_filter 5 = .ok (.invokevirtual 126, 3) := by decide +kernel
theorem dX9_filter_8 : decode cX9_filter 8 = .ok (.astore_n 2, 1) := by decide +kernel
theorem dX9_filter_9 : decode cX9_filter 9 = .ok (.aload_n 2, 1) := by decide +kernel
theorem dX9_filter_10 : decode cX9_filter 10 = .ok (.ifnonnull 5, 3) := by decide +kernel
theorem dX9_filter_13 : decode cX9_filter 13 = .ok (.iconst (-1), 1) := by decide +kernel
theorem dX9_filter_14 : decode cX9_filter 14 = .ok (.ireturn, 1) := by decide +kernel
theorem dX9_filter_15 : decode cX9_filter 15 = .ok (.aload_n 0, 1) := by decide +kernel
theorem dX9_filter_16 : decode cX9_filter 16 = .ok (.getfield 14, 3) := by decide +kernel
theorem dX9_filter_19 : decode cX9_filter 19 = .ok (.getfield 90, 3) := by decide +kernel
theorem dX9_filter_22 : decode cX9_filter 22 = .ok (.ifCond .le 30, 3) := by decide +kernel
theorem dX9_filter_25 : decode cX9_filter 25 = .ok (.aload_n 0, 1) := by decide +kernel
theorem dX9_filter_26 : decode cX9_filter 26 = .ok (.getfield 45, 3) := by decide +kernel
theorem dX9_filter_29 : decode cX9_filter 29 = .ok (.aload_n 0, 1) := by decide +kernel
theorem dX9_filter_30 : decode cX9_filter 30 = .ok (.getfield 14, 3) := by decide +kernel
theorem dX9_filter_33 : decode cX9_filter 33 = .ok (.iconst 0, 1) := by decide +kernel
theorem dX9_filter_34 : decode cX9_filter 34 = .ok (.aload_n 0, 1) := by decide +kernel
theorem dX9_filter_35 : decode cX9_filter 35 = .ok (.getfield 31, 3) := by decide +kernel
theorem dX9_filter_38 : decode cX9_filter 38 = .ok (.getfield 139, 3) := by decide +kernel
theorem dX9_filter_41 : decode cX9_filter 41 = .ok (.invokevirtual 142, 3) := by decide +kernel
theorem dX9_filter_44 : decode cX9_filter 44 = .ok (.bipush (-2), 2) := by decide +kernel
theorem dX9_filter_46 : decode cX9_filter 46 = .ok (.if_icmp .ne 6, 3) := by decide +kernel
theorem dX9_filter_49 : decode cX9_filter 49 = .ok (.bipush (-2), 2) := by decide +kernel
theorem dX9_filter_51 : decode cX9_filter 51 = .ok (.ireturn, 1) := by decide +kernel
theorem dX9_filter_52 : decode cX9_filter 52 = .ok (.aload_n 0, 1) := by decide +kernel
theorem dX9_filter_53 : decode cX9_filter 53 = .ok (.getfield 38, 3) := by decide +kernel
theorem dX9_filter_56 : decode cX9_filter 56 = .ok (.aload_n 0, 1) := by decide +kernel
theorem dX9_filter_57 : decode cX9_filter 57 = .ok (.getfield 31, 3) := by decide +kernel
theorem dX9_filter_60 : decode cX9_filter 60 = .ok (.invokevirtual 113, 3) := by decide +kernel
theorem dX9_filter_63 : decode cX9_filter 63 = .ok (.aload_n 2, 1) := by decide +kernel
theorem dX9_filter_64 : decode cX9_filter 64 = .ok (.aload_n 0, 1) := by decide +kernel
theorem dX9_filter_65 : decode cX9_filter 65 = .ok (.getfield 14, 3) := by decide +kernel
theorem dX9_filter_68 : decode cX9_filter 68 = .ok (.getfield 90, 3) := by decide +kernel
theorem dX9_filter_71 : decode cX9_filter 71 = .ok (.ifCond .le 13, 3) := by decide +kernel
theorem dX9_filter_74 : decode cX9_filter 74 = .ok (.aload_n 0, 1) := by decide +kernel
theorem dX9_filter_75 : decode cX9_filter 75 = .ok (.getfield 14, 3) := by decide +kernel
theorem dX9_filter_78 : decode cX9_filter 78 = .ok (.invokevirtual 146, 3) := by decide +kernel
theorem dX9_filter_81 : decode cX9_filter 81 = .ok (.goto 4, 3) := by decide +kernel
theorem dX9_filter_84 : decode cX9_filter 84 = .ok (.aconst_null, 1) := by decide +kernel
theorem dX9_filter_85 : decode cX9_filter 85 = .ok (.putfield 150, 3) := by decide +kernel
theorem dX9_filter_88 : decode cX9_filter 88 = .ok (.aload_n 0, 1) := by decide +kernel
theorem dX9_filter_89 : decode cX9_filter 89 = .ok (.getfield 14, 3) := by decide +kernel
theorem dX9_filter_92 : decode cX9_filter 92 = .ok (.getfield 90, 3) := by decide +kernel
theorem dX9_filter_95 : decode cX9_filter 95 = .ok (.ireturn, 1) := by decide +kernel
theorem dX9_start_0 : decode cX9_start 0 = .ok (.aload_n 0, 1) := by decide +kernel
theorem dX9_start_1 : decode cX9_start 1 = .ok (.getfield 31, 3) := by decide +kernel
theorem dX9_start_4 : decode cX9_start 4 = .ok (.iload_n 1, 1) := by decide +kernel
theorem dX9_start_5 : decode cX9_start 5 = .ok (.invokevirtual 153, 3) := by decide +kernel
theorem dX9_start_8 : decode cX9_start 8 = .ok (.astore 4, 2) := by decide +kernel
theorem dX9_start_10 : decode cX9_start 10 = .ok (.aload 4, 2) := by decide +kernel
theorem dX9_start_12 : decode cX9_start 12 = .ok (.ifnull 21, 3) := by decide +kernel
theorem dX9_start_15 : decode cX9_start 15 = .ok (.aload_n 0, 1) := by decide +kernel
theorem dX9_start_16 : decode cX9_start 16 = .ok (.getfield 21, 3) := by decide +kernel
theorem dX9_start_19 : decode cX9_start 19 = .ok (.iload_n 2, 1) := by decide +kernel
theorem dX9_start_20 : decode cX9_start 20 = .ok (.invokevirtual 98, 3) := by decide +kernel
theorem dX9_start_23 : decode cX9_start 23 = .ok (.ifCond .eq 10, 3) := by decide +kernel
theorem dX9_start_26 : decode cX9_start 26 = .ok (.iload_n 3, 1) := by decide +kernel
theorem dX9_start_27 : decode cX9_start 27 = .ok (.invokestatic 157, 3) := by decide +kernel
theorem dX9_start_30 : decode cX9_start 30 = .ok (.ifCond .ne 5, 3) := by decide +kernel
theorem dX9_start_33 : decode cX9_start 33 = .ok (.iconst (-1), 1) := by decide +kernel
theorem dX9_start_34 : decode cX9_start 34 = .ok (.ireturn, 1) := by decide +kernel
theorem dX9_start_35 : decode cX9_start 35 = .ok (.aload_n 0, 1) := by decide +kernel
theorem dX9_start_36 : decode cX9_start 36 = .ok (.getfield 21, 3) := by decide +kernel
theorem dX9_start_39 : decode cX9_start 39 = .ok (.iload_n 2, 1) := by decide +kernel
theorem dX9_start_40 : decode cX9_start 40 = .ok (.invokevirtual 102, 3) := by decide +kernel
theorem dX9_start_43 : decode cX9_start 43 = .ok (.ifCond .ne 6, 3) := by decide +kernel
theorem dX9_start_46 : decode cX9_start 46 = .ok (.bipush (-2), 2) := by decide +kernel
theorem dX9_start_48 : decode cX9_start 48 = .ok (.ireturn, 1) := by decide +kernel
theorem dX9_start_49 : decode cX9_start 49 = .ok (.aload_n 0, 1) := by decide +kernel
theorem dX9_start_50 : decode cX9_start 50 = .ok (.getfield 38, 3) := by decide +kernel
theorem dX9_start_53 : decode cX9_start 53 = .ok (.aload_n 0, 1) := by decide +kernel
theorem dX9_start_54 : decode cX9_start 54 = .ok (.getfield 31, 3) := by decide +kernel
theorem dX9_start_57 : decode cX9_start 57 = .ok (.invokevirtual 113, 3) := by decide +kernel
theorem dX9_start_60 : decode cX9_start 60 = .ok (.aload_n 0, 1) := by decide +kernel
theorem dX9_start_61 : decode cX9_start 61 = .ok (.getfield 31, 3) := by decide +kernel
theorem dX9_start_64 : decode cX9_start 64 = .ok (.aload 4, 2) := by decide +kernel
theorem dX9_start_66 : decode cX9_start 66 = .ok (.invokevirtual 160, 3) := by decide +kernel
theorem dX9_start_69 : decode cX9_start 69 = .ok (.istore 5, 2) := by decide +kernel
theorem dX9_start_71 : decode cX9_start 71 = .ok (.aload 4, 2) := by decide +kernel
theorem dX9_start_73 : decode cX9_start 73 = .ok (.iload_n 2, 1) := by decide +kernel
theorem dX9_start_74 : decode cX9_start 74 = .ok (.iload_n 3, 1) := by decide +kernel
theorem dX9_start_75 : decode cX9_start 75 = .ok (.invokevirtual 164, 3) := by decide +kernel
theorem dX9_start_78 : decode cX9_start 78 = .ok (.iload 5, 2) := by decide +kernel
theorem dX9_start_80 : decode cX9_start 80 = .ok (.ireturn, 1) := by decide +kernel
theorem dX9_step_0 : decode cX9_step 0 = .ok (.aload_n 0, 1) := by decide +kernel
theorem dX9_step_1 : decode cX9_step 1 = .ok (.getfield 31, 3) := by decide +kernel
theorem dX9_step_4 : decode cX9_step 4 = .ok (.iload_n 1, 1) := by decide +kernel
theorem dX9_step_5 : decode cX9_step 5 = .ok (.invokevirtual 153, 3) := by decide +kernel
theorem dX9_step_8 : decode cX9_step 8 = .ok (.astore_n 3, 1) := by decide +kernel
theorem dX9_step_9 : decode cX9_step 9 = .ok (.aload_n 3, 1) := by decide +kernel
theorem dX9_step_10 : decode cX9_step 10 = .ok (.ifnull 13, 3) := by decide +kernel
theorem dX9_step_13 : decode cX9_step 13 = .ok (.iload_n 2, 1) := by decide +kernel
theorem dX9_step_14 : decode cX9_step 14 = .ok (.iconst 1, 1) := by decide +kernel
theorem dX9_step_15 : decode cX9_step 15 = .ok (.bipush 60, 2) := by decide +kernel
theorem dX9_step_17 : decode cX9_step 17 = .ok (.invokestatic 86, 3) := by decide +kernel
theorem dX9_step_20 : decode cX9_step 20 = .ok (.ifCond .ne 5, 3) := by decide +kernel
theorem dX9_step_23 : decode cX9_step 23 = .ok (.iconst (-1), 1) := by decide +kernel
theorem dX9_step_24 : decode cX9_step 24 = .ok (.ireturn, 1) := by decide +kernel
theorem dX9_step_25 : decode cX9_step 25 = .ok (.aload_n 3, 1) := by decide +kernel
theorem dX9_step_26 : decode cX9_step 26 = .ok (.getfield 167, 3) := by decide +kernel
theorem dX9_step_29 : decode cX9_step 29 = .ok (.ifCond .eq 6, 3) := by decide +kernel
theorem dX9_step_32 : decode cX9_step 32 = .ok (.bipush (-2), 2) := by decide +kernel
theorem dX9_step_34 : decode cX9_step 34 = .ok (.ireturn, 1) := by decide +kernel
theorem dX9_step_35 : decode cX9_step 35 = .ok (.aload_n 0, 1) := by decide +kernel
theorem dX9_step_36 : decode cX9_step 36 = .ok (.getfield 38, 3) := by decide +kernel
theorem dX9_step_39 : decode cX9_step 39 = .ok (.aload_n 0, 1) := by decide +kernel
theorem dX9_step_40 : decode cX9_step 40 = .ok (.getfield 31, 3) := by decide +kernel
theorem dX9_step_43 : decode cX9_step 43 = .ok (.invokevirtual 113, 3) := by decide +kernel
theorem dX9_step_46 : decode cX9_step 46 = .ok (.aload_n 3, 1) := by decide +kernel
theorem dX9_step_47 : decode cX9_step 47 = .ok (.getfield 171, 3) := by decide +kernel
theorem dX9_step_50 : decode cX9_step 50 = .ok (.istore 4, 2) := by decide +kernel
theorem dX9_step_52 : decode cX9_step 52 = .ok (.iconst 0, 1) := by decide +kernel
theorem dX9_step_53 : decode cX9_step 53 = .ok (.istore 5, 2) := by decide +kernel
theorem dX9_step_55 : decode cX9_step 55 = .ok (.iload 5, 2) := by decide +kernel
theorem dX9_step_57 : decode cX9_step 57 = .ok (.iload_n 2, 1) := by decide +kernel
theorem dX9_step_58 : decode cX9_step 58 = .ok (.if_icmp .ge 21, 3) := by decide +kernel
theorem dX9_step_61 : decode cX9_step 61 = .ok (.aload_n 3, 1) := by decide +kernel
theorem dX9_step_62 : decode cX9_step 62 = .ok (.getfield 167, 3) := by decide +kernel
theorem dX9_step_65 : decode cX9_step 65 = .ok (.ifCond .ne 14, 3) := by decide +kernel
theorem dX9_step_68 : decode cX9_step 68 = .ok (.aload_n 0, 1) := by decide +kernel
theorem dX9_step_69 : decode cX9_step 69 = .ok (.aload_n 3, 1) := by decide +kernel
theorem dX9_step_70 : decode cX9_step 70 = .ok (.invokevirtual 174, 3) := by decide +kernel
theorem dX9_step_73 : decode cX9_step 73 = .ok (.iinc 5 1, 3) := by decide +kernel
theorem dX9_step_76 : decode cX9_step 76 = .ok (.goto (-21), 3) := by decide +kernel
theorem dX9_step_79 : decode cX9_step 79 = .ok (.aload_n 3, 1) := by decide +kernel
theorem dX9_step_80 : decode cX9_step 80 = .ok (.getfield 171, 3) := by decide +kernel
theorem dX9_step_83 : decode cX9_step 83 = .ok (.iload 4, 2) := by decide +kernel
theorem dX9_step_85 : decode cX9_step 85 = .ok (.isub, 1) := by decide +kernel
theorem dX9_step_86 : decode cX9_step 86 = .ok (.ireturn, 1) := by decide +kernel
theorem dX9_poke_0 : decode cX9_poke 0 = .ok (.aload_n 0, 1) := by decide +kernel
theorem dX9_poke_1 : decode cX9_poke 1 = .ok (.getfield 31, 3) := by decide +kernel
theorem dX9_poke_4 : decode cX9_poke 4 = .ok (.getfield 139, 3) := by decide +kernel
theorem dX9_poke_7 : decode cX9_poke 7 = .ok (.iload_n 1, 1) := by decide +kernel
theorem dX9_poke_8 : decode cX9_poke 8 = .ok (.invokevirtual 178, 3) := by decide +kernel
theorem dX9_poke_11 : decode cX9_poke 11 = .ok (.ifCond .eq 10, 3) := by decide +kernel
theorem dX9_poke_14 : decode cX9_poke 14 = .ok (.iload_n 2, 1) := by decide +kernel
theorem dX9_poke_15 : decode cX9_poke 15 = .ok (.invokestatic 157, 3) := by decide +kernel
theorem dX9_poke_18 : decode cX9_poke 18 = .ok (.ifCond .ne 5, 3) := by decide +kernel
theorem dX9_poke_21 : decode cX9_poke 21 = .ok (.iconst (-1), 1) := by decide +kernel
theorem dX9_poke_22 : decode cX9_poke 22 = .ok (.ireturn, 1) := by decide +kernel
theorem dX9_poke_23 : decode cX9_poke 23 = .ok (.aload_n 0, 1) := by decide +kernel
theorem dX9_poke_24 : decode cX9_poke 24 = .ok (.getfield 31, 3) := by decide +kernel
theorem dX9_poke_27 : decode cX9_poke 27 = .ok (.getfield 139, 3) := by decide +kernel
theorem dX9_poke_30 : decode cX9_poke 30 = .ok (.iload_n 1, 1) := by decide +kernel
theorem dX9_poke_31 : decode cX9_poke 31 = .ok (.invokevirtual 179, 3) := by decide +kernel
theorem dX9_poke_34 : decode cX9_poke 34 = .ok (.istore_n 3, 1) := by decide +kernel
theorem dX9_poke_35 : decode cX9_poke 35 = .ok (.iload_n 3, 1) := by decide +kernel
theorem dX9_poke_36 : decode cX9_poke 36 = .ok (.iload_n 2, 1) := by decide +kernel
theorem dX9_poke_37 : decode cX9_poke 37 = .ok (.if_icmp .ne 6, 3) := by decide +kernel
theorem dX9_poke_40 : decode cX9_poke 40 = .ok (.bipush (-2), 2) := by decide +kernel
theorem dX9_poke_42 : decode cX9_poke 42 = .ok (.ireturn, 1) := by decide +kernel
theorem dX9_poke_43 : decode cX9_poke 43 = .ok (.aload_n 0, 1) := by decide +kernel
theorem dX9_poke_44 : decode cX9_poke 44 = .ok (.getfield 38, 3) := by decide +kernel
theorem dX9_poke_47 : decode cX9_poke 47 = .ok (.aload_n 0, 1) := by decide +kernel
theorem dX9_poke_48 : decode cX9_poke 48 = .ok (.getfield 31, 3) := by decide +kernel
theorem dX9_poke_51 : decode cX9_poke 51 = .ok (.invokevirtual 113, 3) := by decide +kernel
theorem dX9_poke_54 : decode cX9_poke 54 = .ok (.aload_n 0, 1) := by decide +kernel
theorem dX9_poke_55 : decode cX9_poke 55 = .ok (.getfield 31, 3) := by decide +kernel
theorem dX9_poke_58 : decode cX9_poke 58 = .ok (.getfield 139, 3) := by decide +kernel
theorem dX9_poke_61 : decode cX9_poke 61 = .ok (.iload_n 1, 1) := by decide +kernel
theorem dX9_poke_62 : decode cX9_poke 62 = .ok (.iload_n 2, 1) := by decide +kernel
theorem dX9_poke_63 : decode cX9_poke 63 = .ok (.invokevirtual 182, 3) := by decide +kernel
theorem dX9_poke_66 : decode cX9_poke 66 = .ok (.iload_n 3, 1) := by decide +kernel
theorem dX9_poke_67 : decode cX9_poke 67 = .ok (.ireturn, 1) := by decide +kernel
theorem dX9_undo_0 : decode cX9_undo 0 = .ok (.aload_n 0, 1) := by decide +kernel
theorem dX9_undo_1 : decode cX9_undo 1 = .ok (.getfield 38, 3) := by decide +kernel
theorem dX9_undo_4 : decode cX9_undo 4 = .ok (.getfield 185, 3) := by decide +kernel
theorem dX9_undo_7 : decode cX9_undo 7 = .ok (.ifCond .ne 6, 3) := by decide +kernel
theorem dX9_undo_10 : decode cX9_undo 10 = .ok (.bipush (-2), 2) := by decide +kernel
theorem dX9_undo_12 : decode cX9_undo 12 = .ok (.ireturn, 1) := by decide +kernel
theorem dX9_undo_13 : decode cX9_undo 13 = .ok (.aload_n 0, 1) := by decide +kernel
theorem dX9_undo_14 : decode cX9_undo 14 = .ok (.getfield 38, 3) := by decide +kernel
theorem dX9_undo_17 : decode cX9_undo 17 = .ok (.aload_n 0, 1) := by decide +kernel
theorem dX9_undo_18 : decode cX9_undo 18 = .ok (.getfield 31, 3) := by decide +kernel
theorem dX9_undo_21 : decode cX9_undo 21 = .ok (.invokevirtual 188, 3) := by decide +kernel
theorem dX9_undo_24 : decode cX9_undo 24 = .ok (.aload_n 0, 1) := by decide +kernel
theorem dX9_undo_25 : decode cX9_undo 25 = .ok (.getfield 38, 3) := by decide +kernel
theorem dX9_undo_28 : decode cX9_undo 28 = .ok (.getfield 185, 3) := by decide +kernel
theorem dX9_undo_31 : decode cX9_undo 31 = .ok (.ireturn, 1) := by decide +kernel
theorem dX9_code_0 : decode cX9_code 0 = .ok (.aload_n 0, 1) := by decide +kernel
theorem dX9_code_1 : decode cX9_code 1 = .ok (.getfield 21, 3) := by decide +kernel
theorem dX9_code_4 : decode cX9_code 4 = .ok (.iload_n 1, 1) := by decide +kernel
theorem dX9_code_5 : decode cX9_code 5 = .ok (.invokevirtual 98, 3) := by decide +kernel
theorem dX9_code_8 : decode cX9_code 8 = .ok (.ifCond .eq 12, 3) := by decide +kernel
theorem dX9_code_11 : decode cX9_code 11 = .ok (.iload_n 2, 1) := by decide +kernel
theorem dX9_code_12 : decode cX9_code 12 = .ok (.iconst 0, 1) := by decide +kernel
theorem dX9_code_13 : decode cX9_code 13 = .ok (.iconst 1, 1) := by decide +kernel
theorem dX9_code_14 : decode cX9_code 14 = .ok (.invokestatic 86, 3) := by decide +kernel
theorem dX9_code_17 : decode cX9_code 17 = .ok (.ifCond .ne 5, 3) := by decide +kernel
theorem dX9_code_20 : decode cX9_code 20 = .ok (.iconst (-1), 1) := by decide +kernel
theorem dX9_code_21 : decode cX9_code 21 = .ok (.ireturn, 1) := by decide +kernel
theorem dX9_code_22 : decode cX9_code 22 = .ok (.iload_n 2, 1) := by decide +kernel
theorem dX9_code_23 : decode cX9_code 23 = .ok (.ifCond .ne 18, 3) := by decide +kernel
theorem dX9_code_26 : decode cX9_code 26 = .ok (.aload_n 0, 1) := by decide +kernel
theorem dX9_code_27 : decode cX9_code 27 = .ok (.getfield 31, 3) := by decide +kernel
theorem dX9_code_30 : decode cX9_code 30 = .ok (.iload_n 1, 1) := by decide +kernel
theorem dX9_code_31 : decode cX9_code 31 = .ok (.invokevirtual 191, 3) := by decide +kernel
theorem dX9_code_34 : decode cX9_code 34 = .ok (.ifCond .eq 7, 3) := by decide +kernel
theorem dX9_code_37 : decode cX9_code 37 = .ok (.iconst 1, 1) := by decide +kernel
theorem dX9_code_38 : decode cX9_code 38 = .ok (.goto 4, 3) := by decide +kernel
theorem dX9_code_41 : decode cX9_code 41 = .ok (.iconst 0, 1) := by decide +kernel
theorem dX9_code_42 : decode cX9_code 42 = .ok (.istore_n 3, 1) := by decide +kernel
theorem dX9_code_43 : decode cX9_code 43 = .ok (.iload_n 3, 1) := by decide +kernel
theorem dX9_code_44 : decode cX9_code 44 = .ok (.ifCond .eq 8, 3) := by decide +kernel
theorem dX9_code_47 : decode cX9_code 47 = .ok (.bipush 33, 2) := by decide +kernel
theorem dX9_code_49 : decode cX9_code 49 = .ok (.goto 11, 3) := by decide +kernel
theorem dX9_code_52 : decode cX9_code 52 = .ok (.aload_n 0, 1) := by decide +kernel
theorem dX9_code_53 : decode cX9_code 53 = .ok (.getfield 21, 3) := by decide +kernel
theorem dX9_code_56 : decode cX9_code 56 = .ok (.iload_n 1, 1) := by decide +kernel
theorem dX9_code_57 : decode cX9_code 57 = .ok (.invokevirtual 194, 3) := by decide +kernel
theorem dX9_code_60 : decode cX9_code 60 = .ok (.ireturn, 1) := by decide +kernel
theorem dX9_memory_0 : decode cX9_memory 0 = .ok (.aload_n 0, 1) := by decide +kernel
theorem dX9_memory_1 : decode cX9_memory 1 = .ok (.getfield 31, 3) := by decide +kernel
theorem dX9_memory_4 : decode cX9_memory 4 = .ok (.getfield 139, 3) := by decide +kernel
theorem dX9_memory_7 : decode cX9_memory 7 = .ok (.iload_n 1, 1) := by decide +kernel
theorem dX9_memory_8 : decode cX9_memory 8 = .ok (.invokevirtual 178, 3) := by decide +kernel
theorem dX9_memory_11 : decode cX9_memory 11 = .ok (.ifCond .eq 17, 3) := by decide +kernel
theorem dX9_memory_14 : decode cX9_memory 14 = .ok (.aload_n 0, 1) := by decide +kernel
theorem dX9_memory_15 : decode cX9_memory 15 = .ok (.getfield 31, 3) := by decide +kernel
theorem dX9_memory_18 : decode cX9_memory 18 = .ok (.getfield 139, 3) := by decide +kernel
theorem dX9_memory_21 : decode cX9_memory 21 = .ok (.iload_n 1, 1) := by decide +kernel
theorem dX9_memory_22 : decode cX9_memory 22 = .ok (.invokevirtual 179, 3) := by decide +kernel
theorem dX9_memory_25 : decode cX9_memory 25 = .ok (.goto 4, 3) := by decide +kernel
theorem dX9_memory_28 : decode cX9_memory 28 = .ok (.iconst (-1), 1) := by decide +kernel
theorem dX9_memory_29 : decode cX9_memory 29 = .ok (.ireturn, 1) := by decide +kernel
theorem dX9_processor_0 : decode cX9_processor 0 = .ok (.aload_n 0, 1) := by decide +kernel
theorem dX9_processor_1 : decode cX9_processor 1 = .ok (.getfield 31, 3) := by decide +kernel
theorem dX9_processor_4 : decode cX9_processor 4 = .ok (.iload_n 1, 1) := by decide +kernel
theorem dX9_processor_5 : decode cX9_processor 5 = .ok (.invokevirtual 153, 3) := by decide +kernel
theorem dX9_processor_8 : decode cX9_processor 8 = .ok (.astore_n 3, 1) := by decide +kernel
theorem dX9_processor_9 : decode cX9_processor 9 = .ok (.aload_n 3, 1) := by decide +kernel
theorem dX9_processor_10 : decode cX9_processor 10 = .ok (.ifnonnull 5, 3) := by decide +kernel
theorem dX9_processor_13 : decode cX9_processor 13 = .ok (.iconst (-1), 1) := by decide +kernel
theorem dX9_processor_14 : decode cX9_processor 14 = .ok (.ireturn, 1) := by decide +kernel
theorem dX9_processor_15 : decode cX9_processor 15 = .ok (.iload_n 2, 1) := by decide +kernel
theorem dX9_processor_16 : decode cX9_processor 16 = .ok (.tableswitch 49 4 6 #[28, 33, 41], 28) := by decide +kernel
theorem dX9_processor_44 : decode cX9_processor 44 = .ok (.aload_n 3, 1) := by decide +kernel
theorem dX9_processor_45 : decode cX9_processor 45 = .ok (.getfield 171, 3) := by decide +kernel
theorem dX9_processor_48 : decode cX9_processor 48 = .ok (.ireturn, 1) := by decide +kernel
theorem dX9_processor_49 : decode cX9_processor 49 = .ok (.aload_n 3, 1) := by decide +kernel
theorem dX9_processor_50 : decode cX9_processor 50 = .ok (.getfield 197, 3) := by decide +kernel
theorem dX9_processor_53 : decode cX9_processor 53 = .ok (.getfield 201, 3) := by decide +kernel
theorem dX9_processor_56 : decode cX9_processor 56 = .ok (.ireturn, 1) := by decide +kernel
theorem dX9_processor_57 : decode cX9_processor 57 = .ok (.aload_n 3, 1) := by decide +kernel
theorem dX9_processor_58 : decode cX9_processor 58 = .ok (.getfield 197, 3) := by decide +kernel
theorem dX9_processor_61 : decode cX9_processor 61 = .ok (.getfield 204, 3) := by decide +kernel
theorem dX9_processor_64 : decode cX9_processor 64 = .ok (.ireturn, 1) := by decide +kernel
theorem dX9_processor_65 : decode cX9_processor 65 = .ok (.aload_n 3, 1) := by decide +kernel
theorem dX9_processor_66 : decode cX9_processor 66 = .ok (.iload_n 2, 1) := by decide +kernel
theorem dX9_processor_67 : decode cX9_processor 67 = .ok (.invokevirtual 207, 3) := by decide +kernel
theorem dX9_processor_70 : decode cX9_processor 70 = .ok (.ireturn, 1) := by decide +kernel
theorem dX9_returns_0 : decode cX9_returns 0 = .ok (.aload_n 0, 1) := by decide +kernel
theorem dX9_returns_1 : decode cX9_returns 1 = .ok (.getfield 31, 3) := by decide +kernel
theorem dX9_returns_4 : decode cX9_returns 4 = .ok (.iload_n 1, 1) := by decide +kernel
theorem dX9_returns_5 : decode cX9_returns 5 = .ok (.invokevirtual 153, 3) := by decide +kernel
theorem dX9_returns_8 : decode cX9_returns 8 = .ok (.astore 4, 2) := by decide +kernel
theorem dX9_returns_10 : decode cX9_returns 10 = .ok (.aload 4, 2) := by decide +kernel
theorem dX9_returns_12 : decode cX9_returns 12 = .ok (.ifnull 16, 3) := by decide +kernel
theorem dX9_returns_15 : decode cX9_returns 15 = .ok (.iload_n 2, 1) := by decide +kernel
theorem dX9_returns_16 : decode cX9_returns 16 = .ok (.ifCond .lt 12, 3) := by decide +kernel
theorem dX9_returns_19 : decode cX9_returns 19 = .ok (.iload_n 3, 1) := by decide +kernel
theorem dX9_returns_20 : decode cX9_returns 20 = .ok (.iconst 0, 1) := by decide +kernel
theorem dX9_returns_21 : decode cX9_returns 21 = .ok (.iconst 1, 1) := by decide +kernel
theorem dX9_returns_22 : decode cX9_returns 22 = .ok (.invokestatic 86, 3) := by decide +kernel
theorem dX9_returns_25 : decode cX9_returns 25 = .ok (.ifCond .ne 5, 3) := by decide +kernel
theorem dX9_returns_28 : decode cX9_returns 28 = .ok (.iconst (-1), 1) := by decide +kernel
theorem dX9_returns_29 : decode cX9_returns 29 = .ok (.ireturn, 1) := by decide +kernel
theorem dX9_returns_30 : decode cX9_returns 30 = .ok (.iload_n 2, 1) := by decide +kernel
theorem dX9_returns_31 : decode cX9_returns 31 = .ok (.aload 4, 2) := by decide +kernel
theorem dX9_returns_33 : decode cX9_returns 33 = .ok (.getfield 210, 3) := by decide +kernel
theorem dX9_returns_36 : decode cX9_returns 36 = .ok (.if_icmp .lt 6, 3) := by decide +kernel
theorem dX9_returns_39 : decode cX9_returns 39 = .ok (.bipush (-4), 2) := by decide +kernel
theorem dX9_returns_41 : decode cX9_returns 41 = .ok (.ireturn, 1) := by decide +kernel
theorem dX9_returns_42 : decode cX9_returns 42 = .ok (.iload_n 3, 1) := by decide +kernel
theorem dX9_returns_43 : decode cX9_returns 43 = .ok (.ifCond .ne 17, 3) := by decide +kernel
theorem dX9_returns_46 : decode cX9_returns 46 = .ok (.aload 4, 2) := by decide +kernel
theorem dX9_returns_48 : decode cX9_returns 48 = .ok (.iload_n 2, 1) := by decide +kernel
theorem dX9_returns_49 : decode cX9_returns 49 = .ok (.invokevirtual 213, 3) := by decide +kernel
theorem dX9_returns_52 : decode cX9_returns 52 = .ok (.iconst (-1), 1) := by decide +kernel
theorem dX9_returns_53 : decode cX9_returns 53 = .ok (.if_icmp .eq 7, 3) := by decide +kernel
theorem dX9_returns_56 : decode cX9_returns 56 = .ok (.iconst 1, 1) := by decide +kernel
theorem dX9_returns_57 : decode cX9_returns 57 = .ok (.goto 4, 3) := by decide +kernel
theorem dX9_returns_60 : decode cX9_returns 60 = .ok (.iconst 0, 1) := by decide +kernel
theorem dX9_returns_61 : decode cX9_returns 61 = .ok (.istore 5, 2) := by decide +kernel
theorem dX9_returns_63 : decode cX9_returns 63 = .ok (.iload 5, 2) := by decide +kernel
theorem dX9_returns_65 : decode cX9_returns 65 = .ok (.ifCond .eq 8, 3) := by decide +kernel
theorem dX9_returns_68 : decode cX9_returns 68 = .ok (.bipush 99, 2) := by decide +kernel
theorem dX9_returns_70 : decode cX9_returns 70 = .ok (.goto 9, 3) := by decide +kernel
theorem dX9_returns_73 : decode cX9_returns 73 = .ok (.aload 4, 2) := by decide +kernel
theorem dX9_returns_75 : decode cX9_returns 75 = .ok (.iload_n 2, 1) := by decide +kernel
theorem dX9_returns_76 : decode cX9_returns 76 = .ok (.invokevirtual 216, 3) := by decide +kernel
theorem dX9_returns_79 : decode cX9_returns 79 = .ok (.ireturn, 1) := by decide +kernel
theorem dX9_ring_0 : decode cX9_ring 0 = .ok (.aload_n 0, 1) := by decide +kernel
theorem dX9_ring_1 : decode cX9_ring 1 = .ok (.getfield 31, 3) := by decide +kernel
theorem dX9_ring_4 : decode cX9_ring 4 = .ok (.iload_n 1, 1) := by decide +kernel
theorem dX9_ring_5 : decode cX9_ring 5 = .ok (.invokevirtual 153, 3) := by decide +kernel
theorem dX9_ring_8 : decode cX9_ring 8 = .ok (.astore 4, 2) := by decide +kernel
theorem dX9_ring_10 : decode cX9_ring 10 = .ok (.aload 4, 2) := by decide +kernel
theorem dX9_ring_12 : decode cX9_ring 12 = .ok (.ifnull 16, 3) := by decide +kernel
theorem dX9_ring_15 : decode cX9_ring 15 = .ok (.iload_n 2, 1) := by decide +kernel
theorem dX9_ring_16 : decode cX9_ring 16 = .ok (.ifCond .lt 12, 3) := by decide +kernel
theorem dX9_ring_19 : decode cX9_ring 19 = .ok (.iload_n 3, 1) := by decide +kernel
theorem dX9_ring_20 : decode cX9_ring 20 = .ok (.iconst 0, 1) := by decide +kernel
theorem dX9_ring_21 : decode cX9_ring 21 = .ok (.iconst 2, 1) := by decide +kernel
theorem dX9_ring_22 : decode cX9_ring 22 = .ok (.invokestatic 86, 3) := by decide +kernel
theorem dX9_ring_25 : decode cX9_ring 25 = .ok (.ifCond .ne 5, 3) := by decide +kernel
theorem dX9_ring_28 : decode cX9_ring 28 = .ok (.iconst (-1), 1) := by decide +kernel
theorem dX9_ring_29 : decode cX9_ring 29 = .ok (.ireturn, 1) := by decide +kernel
theorem dX9_ring_30 : decode cX9_ring 30 = .ok (.aload 4, 2) := by decide +kernel
theorem dX9_ring_32 : decode cX9_ring 32 = .ok (.getfield 197, 3) := by decide +kernel
theorem dX9_ring_35 : decode cX9_ring 35 = .ok (.iload_n 2, 1) := by decide +kernel
theorem dX9_ring_36 : decode cX9_ring 36 = .ok (.iload_n 3, 1) := by decide +kernel
theorem dX9_ring_37 : decode cX9_ring 37 = .ok (.invokevirtual 219, 3) := by decide +kernel
theorem dX9_ring_40 : decode cX9_ring 40 = .ok (.ireturn, 1) := by decide +kernel
theorem dX9_look_0 : decode cX9_look 0 = .ok (.aload_n 0, 1) := by decide +kernel
theorem dX9_look_1 : decode cX9_look 1 = .ok (.getfield 31, 3) := by decide +kernel
theorem dX9_look_4 : decode cX9_look 4 = .ok (.iload_n 1, 1) := by decide +kernel
theorem dX9_look_5 : decode cX9_look 5 = .ok (.invokevirtual 222, 3) := by decide +kernel
theorem dX9_look_8 : decode cX9_look 8 = .ok (.astore_n 3, 1) := by decide +kernel
theorem dX9_look_9 : decode cX9_look 9 = .ok (.aload_n 3, 1) := by decide +kernel
theorem dX9_look_10 : decode cX9_look 10 = .ok (.ifnull 13, 3) := by decide +kernel
theorem dX9_look_13 : decode cX9_look 13 = .ok (.iload_n 2, 1) := by decide +kernel
theorem dX9_look_14 : decode cX9_look 14 = .ok (.iconst 0, 1) := by decide +kernel
theorem dX9_look_15 : decode cX9_look 15 = .ok (.bipush 7, 2) := by decide +kernel
theorem dX9_look_17 : decode cX9_look 17 = .ok (.invokestatic 86, 3) := by decide +kernel
theorem dX9_look_20 : decode cX9_look 20 = .ok (.ifCond .ne 5, 3) := by decide +kernel
theorem dX9_look_23 : decode cX9_look 23 = .ok (.iconst (-1), 1) := by decide +kernel
theorem dX9_look_24 : decode cX9_look 24 = .ok (.ireturn, 1) := by decide +kernel
theorem dX9_look_25 : decode cX9_look 25 = .ok (.aload_n 3, 1) := by decide +kernel
theorem dX9_look_26 : decode cX9_look 26 = .ok (.getfield 129, 3) := by decide +kernel
theorem dX9_look_29 : decode cX9_look 29 = .ok (.iconst 3, 1) := by decide +kernel
theorem dX9_look_30 : decode cX9_look 30 = .ok (.if_icmp .ne 10, 3) := by decide +kernel
theorem dX9_look_33 : decode cX9_look 33 = .ok (.iload_n 2, 1) := by decide +kernel
theorem dX9_look_34 : decode cX9_look 34 = .ok (.ifCond .eq 6, 3) := by decide +kernel
theorem dX9_look_37 : decode cX9_look 37 = .ok (.bipush (-2), 2) := by decide +kernel
theorem dX9_look_39 : decode cX9_look 39 = .ok (.ireturn, 1) := by decide +kernel
theorem dX9_look_40 : decode cX9_look 40 = .ok (.aload_n 3, 1) := by decide +kernel
theorem dX9_look_41 : decode cX9_look 41 = .ok (.iload_n 2, 1) := by decide +kernel
theorem dX9_look_42 : decode cX9_look 42 = .ok (.invokevirtual 225, 3) := by decide +kernel
theorem dX9_look_45 : decode cX9_look 45 = .ok (.ireturn, 1) := by decide +kernel
theorem dX9_asked_0 : decode cX9_asked 0 = .ok (.iload_n 1, 1) := by decide +kernel
theorem dX9_asked_1 : decode cX9_asked 1 = .ok (.invokestatic 157, 3) := by decide +kernel
theorem dX9_asked_4 : decode cX9_asked 4 = .ok (.ifCond .eq 25, 3) := by decide +kernel
theorem dX9_asked_7 : decode cX9_asked 7 = .ok (.aload_n 0, 1) := by decide +kernel
theorem dX9_asked_8 : decode cX9_asked 8 = .ok (.getfield 45, 3) := by decide +kernel
theorem dX9_asked_11 : decode cX9_asked 11 = .ok (.aload_n 0, 1) := by decide +kernel
theorem dX9_asked_12 : decode cX9_asked 12 = .ok (.getfield 14, 3) := by decide +kernel
theorem dX9_asked_15 : decode cX9_asked 15 = .ok (.iload_n 1, 1) := by decide +kernel
theorem dX9_asked_16 : decode cX9_asked 16 = .ok (.aload_n 0, 1) := by decide +kernel
theorem dX9_asked_17 : decode cX9_asked 17 = .ok (.getfield 31, 3) := by decide +kernel
theorem dX9_asked_20 : decode cX9_asked 20 = .ok (.getfield 139, 3) := by decide +kernel
theorem dX9_asked_23 : decode cX9_asked 23 = .ok (.invokevirtual 142, 3) := by decide +kernel
theorem dX9_asked_26 : decode cX9_asked 26 = .ok (.goto 4, 3) := by decide +kernel
theorem dX9_asked_29 : decode cX9_asked 29 = .ok (.iconst (-1), 1) := by decide +kernel
theorem dX9_asked_30 : decode cX9_asked 30 = .ok (.ireturn, 1) := by decide +kernel
theorem dX9_ever_0 : decode cX9_ever 0 = .ok (.aload_n 0, 1) := by decide +kernel
theorem dX9_ever_1 : decode cX9_ever 1 = .ok (.getfield 31, 3) := by decide +kernel
theorem dX9_ever_4 : decode cX9_ever 4 = .ok (.iload_n 1, 1) := by decide +kernel
theorem dX9_ever_5 : decode cX9_ever 5 = .ok (.invokevirtual 153, 3) := by decide +kernel
theorem dX9_ever_8 : decode cX9_ever 8 = .ok (.astore 4, 2) := by decide +kernel
theorem dX9_ever_10 : decode cX9_ever 10 = .ok (.aload 4, 2) := by decide +kernel
theorem dX9_ever_12 : decode cX9_ever 12 = .ok (.ifnull 22, 3) := by decide +kernel
theorem dX9_ever_15 : decode cX9_ever 15 = .ok (.iload_n 2, 1) := by decide +kernel
theorem dX9_ever_16 : decode cX9_ever 16 = .ok (.iconst 0, 1) := by decide +kernel
theorem dX9_ever_17 : decode cX9_ever 17 = .ok (.bipush 60, 2) := by decide +kernel
theorem dX9_ever_19 : decode cX9_ever 19 = .ok (.invokestatic 86, 3) := by decide +kernel
theorem dX9_ever_22 : decode cX9_ever 22 = .ok (.ifCond .eq 12, 3) := by decide +kernel
theorem dX9_ever_25 : decode cX9_ever 25 = .ok (.iload_n 3, 1) := by decide +kernel
theorem dX9_ever_26 : decode cX9_ever 26 = .ok (.iconst 0, 1) := by decide +kernel
theorem dX9_ever_27 : decode cX9_ever 27 = .ok (.iconst 4, 1) := by decide +kernel
theorem dX9_ever_28 : decode cX9_ever 28 = .ok (.invokestatic 86, 3) := by decide +kernel
theorem dX9_ever_31 : decode cX9_ever 31 = .ok (.ifCond .ne 5, 3) := by decide +kernel
theorem dX9_ever_34 : decode cX9_ever 34 = .ok (.iconst (-1), 1) := by decide +kernel
theorem dX9_ever_35 : decode cX9_ever 35 = .ok (.ireturn, 1) := by decide +kernel
theorem dX9_ever_36 : decode cX9_ever 36 = .ok (.aload_n 0, 1) := by decide +kernel
theorem dX9_ever_37 : decode cX9_ever 37 = .ok (.getfield 52, 3) := by decide +kernel
theorem dX9_ever_40 : decode cX9_ever 40 = .ok (.aload 4, 2) := by decide +kernel
theorem dX9_ever_42 : decode cX9_ever 42 = .ok (.invokevirtual 226, 3) := by decide +kernel
theorem dX9_ever_45 : decode cX9_ever 45 = .ok (.aload_n 0, 1) := by decide +kernel
theorem dX9_ever_46 : decode cX9_ever 46 = .ok (.getfield 59, 3) := by decide +kernel
theorem dX9_ever_49 : decode cX9_ever 49 = .ok (.aload_n 0, 1) := by decide +kernel
theorem dX9_ever_50 : decode cX9_ever 50 = .ok (.getfield 31, 3) := by decide +kernel
theorem dX9_ever_53 : decode cX9_ever 53 = .ok (.getfield 139, 3) := by decide +kernel
theorem dX9_ever_56 : decode cX9_ever 56 = .ok (.invokevirtual 229, 3) := by decide +kernel
theorem dX9_ever_59 : decode cX9_ever 59 = .ok (.iconst 0, 1) := by decide +kernel
theorem dX9_ever_60 : decode cX9_ever 60 = .ok (.istore 5, 2) := by decide +kernel
theorem dX9_ever_62 : decode cX9_ever 62 = .ok (.iload 5, 2) := by decide +kernel
theorem dX9_ever_64 : decode cX9_ever 64 = .ok (.iload_n 2, 1) := by decide +kernel
theorem dX9_ever_65 : decode cX9_ever 65 = .ok (.if_icmp .ge 48, 3) := by decide +kernel
theorem dX9_ever_68 : decode cX9_ever 68 = .ok (.aload_n 0, 1) := by decide +kernel
theorem dX9_ever_69 : decode cX9_ever 69 = .ok (.getfield 52, 3) := by decide +kernel
theorem dX9_ever_72 : decode cX9_ever 72 = .ok (.getfield 167, 3) := by decide +kernel
theorem dX9_ever_75 : decode cX9_ever 75 = .ok (.ifCond .ne 38, 3) := by decide +kernel
theorem dX9_ever_78 : decode cX9_ever 78 = .ok (.aload_n 0, 1) := by decide +kernel
theorem dX9_ever_79 : decode cX9_ever 79 = .ok (.getfield 52, 3) := by decide +kernel
theorem dX9_ever_82 : decode cX9_ever 82 = .ok (.aload_n 0, 1) := by decide +kernel
theorem dX9_ever_83 : decode cX9_ever 83 = .ok (.getfield 21, 3) := by decide +kernel
theorem dX9_ever_86 : decode cX9_ever 86 = .ok (.invokevirtual 232, 3) := by decide +kernel
theorem dX9_ever_89 : decode cX9_ever 89 = .ok (.ifCond .eq 18, 3) := by decide +kernel
theorem dX9_ever_92 : decode cX9_ever 92 = .ok (.aload_n 0, 1) := by decide +kernel
theorem dX9_ever_93 : decode cX9_ever 93 = .ok (.getfield 52, 3) := by decide +kernel
theorem dX9_ever_96 : decode cX9_ever 96 = .ok (.aload_n 0, 1) := by decide +kernel
theorem dX9_ever_97 : decode cX9_ever 97 = .ok (.getfield 21, 3) := by decide +kernel
theorem dX9_ever_100 : decode cX9_ever 100 = .ok (.aload_n 0, 1) := by decide +kernel
theorem dX9_ever_101 : decode cX9_ever 101 = .ok (.getfield 59, 3) := by decide +kernel
theorem dX9_ever_104 : decode cX9_ever 104 = .ok (.invokevirtual 236, 3) := by decide +kernel
theorem dX9_ever_107 : decode cX9_ever 107 = .ok (.iinc 5 1, 3) := by decide +kernel
theorem dX9_ever_110 : decode cX9_ever 110 = .ok (.goto (-48), 3) := by decide +kernel
theorem dX9_ever_113 : decode cX9_ever 113 = .ok (.iload_n 3, 1) := by decide +kernel
theorem dX9_ever_114 : decode cX9_ever 114 = .ok (.iconst 4, 1) := by decide +kernel
theorem dX9_ever_115 : decode cX9_ever 115 = .ok (.if_icmp .ne 13, 3) := by decide +kernel
theorem dX9_ever_118 : decode cX9_ever 118 = .ok (.aload_n 0, 1) := by decide +kernel
theorem dX9_ever_119 : decode cX9_ever 119 = .ok (.getfield 59, 3) := by decide +kernel
theorem dX9_ever_122 : decode cX9_ever 122 = .ok (.invokevirtual 240, 3) := by decide +kernel
theorem dX9_ever_125 : decode cX9_ever 125 = .ok (.goto 11, 3) := by decide +kernel
theorem dX9_ever_128 : decode cX9_ever 128 = .ok (.aload_n 0, 1) := by decide +kernel
theorem dX9_ever_129 : decode cX9_ever 129 = .ok (.getfield 52, 3) := by decide +kernel
theorem dX9_ever_132 : decode cX9_ever 132 = .ok (.iload_n 3, 1) := by decide +kernel
theorem dX9_ever_133 : decode cX9_ever 133 = .ok (.invokevirtual 207, 3) := by decide +kernel
theorem dX9_ever_136 : decode cX9_ever 136 = .ok (.ireturn, 1) := by decide +kernel
theorem dX9_count_0 : decode cX9_count 0 = .ok (.iload_n 1, 1) := by decide +kernel
theorem dX9_count_1 : decode cX9_count 1 = .ok (.tableswitch 104 0 6 #[43, 54, 62, 71, 80, 88, 96], 43) := by decide +kernel
theorem dX9_count_44 : decode cX9_count 44 = .ok (.aload_n 0, 1) := by decide +kernel
theorem dX9_count_45 : decode cX9_count 45 = .ok (.getfield 21, 3) := by decide +kernel
theorem dX9_count_48 : decode cX9_count 48 = .ok (.getfield 95, 3) := by decide +kernel
theorem dX9_count_51 : decode cX9_count 51 = .ok (.getfield 90, 3) := by decide +kernel
theorem dX9_count_54 : decode cX9_count 54 = .ok (.ireturn, 1) := by decide +kernel
theorem dX9_count_55 : decode cX9_count 55 = .ok (.aload_n 0, 1) := by decide +kernel
theorem dX9_count_56 : decode cX9_count 56 = .ok (.getfield 21, 3) := by decide +kernel
theorem dX9_count_59 : decode cX9_count 59 = .ok (.getfield 243, 3) := by decide +kernel
theorem dX9_count_62 : decode cX9_count 62 = .ok (.ireturn, 1) := by decide +kernel
theorem dX9_count_63 : decode cX9_count 63 = .ok (.aload_n 0, 1) := by decide +kernel
theorem dX9_count_64 : decode cX9_count 64 = .ok (.getfield 31, 3) := by decide +kernel
theorem dX9_count_67 : decode cX9_count 67 = .ok (.iconst 0, 1) := by decide +kernel
theorem dX9_count_68 : decode cX9_count 68 = .ok (.invokevirtual 132, 3) := by decide +kernel
theorem dX9_count_71 : decode cX9_count 71 = .ok (.ireturn, 1) := by decide +kernel
theorem dX9_count_72 : decode cX9_count 72 = .ok (.aload_n 0, 1) := by decide +kernel
theorem dX9_count_73 : decode cX9_count 73 = .ok (.getfield 31, 3) := by decide +kernel
theorem dX9_count_76 : decode cX9_count 76 = .ok (.iconst 2, 1) := by decide +kernel
theorem dX9_count_77 : decode cX9_count 77 = .ok (.invokevirtual 132, 3) := by decide +kernel
theorem dX9_count_80 : decode cX9_count 80 = .ok (.ireturn, 1) := by decide +kernel
theorem dX9_count_81 : decode cX9_count 81 = .ok (.aload_n 0, 1) := by decide +kernel
theorem dX9_count_82 : decode cX9_count 82 = .ok (.getfield 31, 3) := by decide +kernel
theorem dX9_count_85 : decode cX9_count 85 = .ok (.invokevirtual 246, 3) := by decide +kernel
theorem dX9_count_88 : decode cX9_count 88 = .ok (.ireturn, 1) := by decide +kernel
theorem dX9_count_89 : decode cX9_count 89 = .ok (.aload_n 0, 1) := by decide +kernel
theorem dX9_count_90 : decode cX9_count 90 = .ok (.getfield 38, 3) := by decide +kernel
theorem dX9_count_93 : decode cX9_count 93 = .ok (.getfield 185, 3) := by decide +kernel
theorem dX9_count_96 : decode cX9_count 96 = .ok (.ireturn, 1) := by decide +kernel
theorem dX9_count_97 : decode cX9_count 97 = .ok (.aload_n 0, 1) := by decide +kernel
theorem dX9_count_98 : decode cX9_count 98 = .ok (.getfield 14, 3) := by decide +kernel
theorem dX9_count_101 : decode cX9_count 101 = .ok (.getfield 90, 3) := by decide +kernel
theorem dX9_count_104 : decode cX9_count 104 = .ok (.ireturn, 1) := by decide +kernel
theorem dX9_count_105 : decode cX9_count 105 = .ok (.iconst (-1), 1) := by decide +kernel
theorem dX9_count_106 : decode cX9_count 106 = .ok (.ireturn, 1) := by decide +kernel
theorem dX9_stepWithProbes_0 : decode cX9_stepWithProbes 0 = .ok (.aload_n 1, 1) := by decide +kernel
theorem dX9_stepWithProbes_1 : decode cX9_stepWithProbes 1 = .ok (.aload_n 0, 1) := by decide +kernel
theorem dX9_stepWithProbes_2 : decode cX9_stepWithProbes 2 = .ok (.getfield 21, 3) := by decide +kernel
theorem dX9_stepWithProbes_5 : decode cX9_stepWithProbes 5 = .ok (.invokevirtual 232, 3) := by decide +kernel
theorem dX9_stepWithProbes_8 : decode cX9_stepWithProbes 8 = .ok (.ifCond .ne 4, 3) := by decide +kernel
theorem dX9_stepWithProbes_11 : decode cX9_stepWithProbes 11 = .ok (.return_, 1) := by decide +kernel
theorem dX9_stepWithProbes_12 : decode cX9_stepWithProbes 12 = .ok (.aload_n 1, 1) := by decide +kernel
theorem dX9_stepWithProbes_13 : decode cX9_stepWithProbes 13 = .ok (.dup, 1) := by decide +kernel
theorem dX9_stepWithProbes_14 : decode cX9_stepWithProbes 14 = .ok (.getfield 171, 3) := by decide +kernel
theorem dX9_stepWithProbes_17 : decode cX9_stepWithProbes 17 = .ok (.iconst 1, 1) := by decide +kernel
theorem dX9_stepWithProbes_18 : decode cX9_stepWithProbes 18 = .ok (.iadd, 1) := by decide +kernel
theorem dX9_stepWithProbes_19 : decode cX9_stepWithProbes 19 = .ok (.putfield 171, 3) := by decide +kernel
theorem dX9_stepWithProbes_22 : decode cX9_stepWithProbes 22 = .ok (.aload_n 0, 1) := by decide +kernel
theorem dX9_stepWithProbes_23 : decode cX9_stepWithProbes 23 = .ok (.getfield 31, 3) := by decide +kernel
theorem dX9_stepWithProbes_26 : decode cX9_stepWithProbes 26 = .ok (.aload_n 1, 1) := by decide +kernel
theorem dX9_stepWithProbes_27 : decode cX9_stepWithProbes 27 = .ok (.getfield 249, 3) := by decide +kernel
theorem dX9_stepWithProbes_30 : decode cX9_stepWithProbes 30 = .ok (.invokevirtual 105, 3) := by decide +kernel
theorem dX9_stepWithProbes_33 : decode cX9_stepWithProbes 33 = .ok (.astore_n 2, 1) := by decide +kernel
theorem dX9_stepWithProbes_34 : decode cX9_stepWithProbes 34 = .ok (.aload_n 2, 1) := by decide +kernel
theorem dX9_stepWithProbes_35 : decode cX9_stepWithProbes 35 = .ok (.ifnull 16, 3) := by decide +kernel
theorem dX9_stepWithProbes_38 : decode cX9_stepWithProbes 38 = .ok (.aload_n 2, 1) := by decide +kernel
theorem dX9_stepWithProbes_39 : decode cX9_stepWithProbes 39 = .ok (.getfield 129, 3) := by decide +kernel
theorem dX9_stepWithProbes_42 : decode cX9_stepWithProbes 42 = .ok (.ifCond .ne 9, 3) := by decide +kernel
theorem dX9_stepWithProbes_45 : decode cX9_stepWithProbes 45 = .ok (.aload_n 0, 1) := by decide +kernel
theorem dX9_stepWithProbes_46 : decode cX9_stepWithProbes 46 = .ok (.aload_n 1, 1) := by decide +kernel
theorem dX9_stepWithProbes_47 : decode cX9_stepWithProbes 47 = .ok (.aload_n 2, 1) := by decide +kernel
theorem dX9_stepWithProbes_48 : decode cX9_stepWithProbes 48 = .ok (.invokevirtual 252, 3) := by decide +kernel
theorem dX9_stepWithProbes_51 : decode cX9_stepWithProbes 51 = .ok (.aload_n 0, 1) := by decide +kernel
theorem dX9_stepWithProbes_52 : decode cX9_stepWithProbes 52 = .ok (.getfield 21, 3) := by decide +kernel
theorem dX9_stepWithProbes_55 : decode cX9_stepWithProbes 55 = .ok (.aload_n 1, 1) := by decide +kernel
theorem dX9_stepWithProbes_56 : decode cX9_stepWithProbes 56 = .ok (.getfield 249, 3) := by decide +kernel
theorem dX9_stepWithProbes_59 : decode cX9_stepWithProbes 59 = .ok (.invokevirtual 194, 3) := by decide +kernel
theorem dX9_stepWithProbes_62 : decode cX9_stepWithProbes 62 = .ok (.bipush 114, 2) := by decide +kernel
theorem dX9_stepWithProbes_64 : decode cX9_stepWithProbes 64 = .ok (.if_icmp .ne 10, 3) := by decide +kernel
theorem dX9_stepWithProbes_67 : decode cX9_stepWithProbes 67 = .ok (.aload_n 1, 1) := by decide +kernel
theorem dX9_stepWithProbes_68 : decode cX9_stepWithProbes 68 = .ok (.invokevirtual 256, 3) := by decide +kernel
theorem dX9_stepWithProbes_71 : decode cX9_stepWithProbes 71 = .ok (.goto 4, 3) := by decide +kernel
theorem dX9_stepWithProbes_74 : decode cX9_stepWithProbes 74 = .ok (.iconst (-1), 1) := by decide +kernel
theorem dX9_stepWithProbes_75 : decode cX9_stepWithProbes 75 = .ok (.istore_n 3, 1) := by decide +kernel
theorem dX9_stepWithProbes_76 : decode cX9_stepWithProbes 76 = .ok (.aload_n 1, 1) := by decide +kernel
theorem dX9_stepWithProbes_77 : decode cX9_stepWithProbes 77 = .ok (.aload_n 0, 1) := by decide +kernel
theorem dX9_stepWithProbes_78 : decode cX9_stepWithProbes 78 = .ok (.getfield 21, 3) := by decide +kernel
theorem dX9_stepWithProbes_81 : decode cX9_stepWithProbes 81 = .ok (.aload_n 0, 1) := by decide +kernel
theorem dX9_stepWithProbes_82 : decode cX9_stepWithProbes 82 = .ok (.getfield 31, 3) := by decide +kernel
theorem dX9_stepWithProbes_85 : decode cX9_stepWithProbes 85 = .ok (.getfield 139, 3) := by decide +kernel
theorem dX9_stepWithProbes_88 : decode cX9_stepWithProbes 88 = .ok (.invokevirtual 236, 3) := by decide +kernel
theorem dX9_stepWithProbes_91 : decode cX9_stepWithProbes 91 = .ok (.aload_n 0, 1) := by decide +kernel
theorem dX9_stepWithProbes_92 : decode cX9_stepWithProbes 92 = .ok (.getfield 31, 3) := by decide +kernel
theorem dX9_stepWithProbes_95 : decode cX9_stepWithProbes 95 = .ok (.iload_n 3, 1) := by decide +kernel
theorem dX9_stepWithProbes_96 : decode cX9_stepWithProbes 96 = .ok (.invokevirtual 222, 3) := by decide +kernel
theorem dX9_stepWithProbes_99 : decode cX9_stepWithProbes 99 = .ok (.astore 4, 2) := by decide +kernel
theorem dX9_stepWithProbes_101 : decode cX9_stepWithProbes 101 = .ok (.aload 4, 2) := by decide +kernel
theorem dX9_stepWithProbes_103 : decode cX9_stepWithProbes 103 = .ok (.ifnull 10, 3) := by decide +kernel
theorem dX9_stepWithProbes_106 : decode cX9_stepWithProbes 106 = .ok (.aload_n 0, 1) := by decide +kernel
theorem dX9_stepWithProbes_107 : decode cX9_stepWithProbes 107 = .ok (.aload_n 1, 1) := by decide +kernel
theorem dX9_stepWithProbes_108 : decode cX9_stepWithProbes 108 = .ok (.aload 4, 2) := by decide +kernel
theorem dX9_stepWithProbes_110 : decode cX9_stepWithProbes 110 = .ok (.invokevirtual 259, 3) := by decide +kernel
theorem dX9_stepWithProbes_113 : decode cX9_stepWithProbes 113 = .ok (.return_, 1) := by decide +kernel
theorem dX9_comeBy_0 : decode cX9_comeBy 0 = .ok (.aload_n 2, 1) := by decide +kernel
theorem dX9_comeBy_1 : decode cX9_comeBy 1 = .ok (.getfield 262, 3) := by decide +kernel
theorem dX9_comeBy_4 : decode cX9_comeBy 4 = .ok (.ifCond .ne 12, 3) := by decide +kernel
theorem dX9_comeBy_7 : decode cX9_comeBy 7 = .ok (.aload_n 0, 1) := by decide +kernel
theorem dX9_comeBy_8 : decode cX9_comeBy 8 = .ok (.aload_n 1, 1) := by decide +kernel
theorem dX9_comeBy_9 : decode cX9_comeBy 9 = .ok (.aload_n 2, 1) := by decide +kernel
theorem dX9_comeBy_10 : decode cX9_comeBy 10 = .ok (.invokevirtual 265, 3) := by decide +kernel
theorem dX9_comeBy_13 : decode cX9_comeBy 13 = .ok (.goto 45, 3) := by decide +kernel
theorem dX9_comeBy_16 : decode cX9_comeBy 16 = .ok (.aload_n 2, 1) := by decide +kernel
theorem dX9_comeBy_17 : decode cX9_comeBy 17 = .ok (.getfield 268, 3) := by decide +kernel
theorem dX9_comeBy_20 : decode cX9_comeBy 20 = .ok (.iconst 3, 1) := by decide +kernel
theorem dX9_comeBy_21 : decode cX9_comeBy 21 = .ok (.if_icmp .ge 14, 3) := by decide +kernel
theorem dX9_comeBy_24 : decode cX9_comeBy 24 = .ok (.aload_n 1, 1) := by decide +kernel
theorem dX9_comeBy_25 : decode cX9_comeBy 25 = .ok (.aload_n 2, 1) := by decide +kernel
theorem dX9_comeBy_26 : decode cX9_comeBy 26 = .ok (.getfield 123, 3) := by decide +kernel
theorem dX9_comeBy_29 : decode cX9_comeBy 29 = .ok (.invokevirtual 271, 3) := by decide +kernel
theorem dX9_comeBy_32 : decode cX9_comeBy 32 = .ok (.ifCond .ne 16, 3) := by decide +kernel
theorem dX9_comeBy_35 : decode cX9_comeBy 35 = .ok (.aload_n 2, 1) := by decide +kernel
theorem dX9_comeBy_36 : decode cX9_comeBy 36 = .ok (.dup, 1) := by decide +kernel
theorem dX9_comeBy_37 : decode cX9_comeBy 37 = .ok (.getfield 274, 3) := by decide +kernel
theorem dX9_comeBy_40 : decode cX9_comeBy 40 = .ok (.iconst 1, 1) := by decide +kernel
theorem dX9_comeBy_41 : decode cX9_comeBy 41 = .ok (.iadd, 1) := by decide +kernel
theorem dX9_comeBy_42 : decode cX9_comeBy 42 = .ok (.putfield 274, 3) := by decide +kernel
theorem dX9_comeBy_45 : decode cX9_comeBy 45 = .ok (.goto 13, 3) := by decide +kernel
theorem dX9_comeBy_48 : decode cX9_comeBy 48 = .ok (.aload_n 2, 1) := by decide +kernel
theorem dX9_comeBy_49 : decode cX9_comeBy 49 = .ok (.dup, 1) := by decide +kernel
theorem dX9_comeBy_50 : decode cX9_comeBy 50 = .ok (.getfield 268, 3) := by decide +kernel
theorem dX9_comeBy_53 : decode cX9_comeBy 53 = .ok (.iconst 1, 1) := by decide +kernel
theorem dX9_comeBy_54 : decode cX9_comeBy 54 = .ok (.iadd, 1) := by decide +kernel
theorem dX9_comeBy_55 : decode cX9_comeBy 55 = .ok (.putfield 268, 3) := by decide +kernel
theorem dX9_comeBy_58 : decode cX9_comeBy 58 = .ok (.return_, 1) := by decide +kernel
theorem dX9_leave_0 : decode cX9_leave 0 = .ok (.aload_n 2, 1) := by decide +kernel
theorem dX9_leave_1 : decode cX9_leave 1 = .ok (.dup, 1) := by decide +kernel
theorem dX9_leave_2 : decode cX9_leave 2 = .ok (.getfield 268, 3) := by decide +kernel
theorem dX9_leave_5 : decode cX9_leave 5 = .ok (.iconst 1, 1) := by decide +kernel
theorem dX9_leave_6 : decode cX9_leave 6 = .ok (.isub, 1) := by decide +kernel
theorem dX9_leave_7 : decode cX9_leave 7 = .ok (.putfield 268, 3) := by decide +kernel
theorem dX9_leave_10 : decode cX9_leave 10 = .ok (.aload_n 2, 1) := by decide +kernel
theorem dX9_leave_11 : decode cX9_leave 11 = .ok (.getfield 129, 3) := by decide +kernel
theorem dX9_leave_14 : decode cX9_leave 14 = .ok (.ifCond .ne 9, 3) := by decide +kernel
theorem dX9_leave_17 : decode cX9_leave 17 = .ok (.aload_n 0, 1) := by decide +kernel
theorem dX9_leave_18 : decode cX9_leave 18 = .ok (.aload_n 1, 1) := by decide +kernel
theorem dX9_leave_19 : decode cX9_leave 19 = .ok (.aload_n 2, 1) := by decide +kernel
theorem dX9_leave_20 : decode cX9_leave 20 = .ok (.invokevirtual 265, 3) := by decide +kernel
theorem dX9_leave_23 : decode cX9_leave 23 = .ok (.aload_n 2, 1) := by decide +kernel
theorem dX9_leave_24 : decode cX9_leave 24 = .ok (.invokevirtual 136, 3) := by decide +kernel
theorem dX9_leave_27 : decode cX9_leave 27 = .ok (.return_, 1) := by decide +kernel
theorem dX9_hit_0 : decode cX9_hit 0 = .ok (.aload_n 2, 1) := by decide +kernel
theorem dX9_hit_1 : decode cX9_hit 1 = .ok (.dup, 1) := by decide +kernel
theorem dX9_hit_2 : decode cX9_hit 2 = .ok (.getfield 277, 3) := by decide +kernel
theorem dX9_hit_5 : decode cX9_hit 5 = .ok (.iconst 1, 1) := by decide +kernel
theorem dX9_hit_6 : decode cX9_hit 6 = .ok (.iadd, 1) := by decide +kernel
theorem dX9_hit_7 : decode cX9_hit 7 = .ok (.putfield 277, 3) := by decide +kernel
theorem dX9_hit_10 : decode cX9_hit 10 = .ok (.aload_n 2, 1) := by decide +kernel
theorem dX9_hit_11 : decode cX9_hit 11 = .ok (.getfield 150, 3) := by decide +kernel
theorem dX9_hit_14 : decode cX9_hit 14 = .ok (.ifnull 41, 3) := by decide +kernel
theorem dX9_hit_17 : decode cX9_hit 17 = .ok (.aload_n 0, 1) := by decide +kernel
theorem dX9_hit_18 : decode cX9_hit 18 = .ok (.getfield 45, 3) := by decide +kernel
theorem dX9_hit_21 : decode cX9_hit 21 = .ok (.aload_n 2, 1) := by decide +kernel
theorem dX9_hit_22 : decode cX9_hit 22 = .ok (.getfield 150, 3) := by decide +kernel
theorem dX9_hit_25 : decode cX9_hit 25 = .ok (.aload_n 1, 1) := by decide +kernel
theorem dX9_hit_26 : decode cX9_hit 26 = .ok (.getfield 280, 3) := by decide +kernel
theorem dX9_hit_29 : decode cX9_hit 29 = .ok (.aload_n 0, 1) := by decide +kernel
theorem dX9_hit_30 : decode cX9_hit 30 = .ok (.getfield 31, 3) := by decide +kernel
theorem dX9_hit_33 : decode cX9_hit 33 = .ok (.getfield 139, 3) := by decide +kernel
theorem dX9_hit_36 : decode cX9_hit 36 = .ok (.invokevirtual 142, 3) := by decide +kernel
theorem dX9_hit_39 : decode cX9_hit 39 = .ok (.ifCond .ne 16, 3) := by decide +kernel
theorem dX9_hit_42 : decode cX9_hit 42 = .ok (.aload_n 2, 1) := by decide +kernel
theorem dX9_hit_43 : decode cX9_hit 43 = .ok (.dup, 1) := by decide +kernel
theorem dX9_hit_44 : decode cX9_hit 44 = .ok (.getfield 283, 3) := by decide +kernel
theorem dX9_hit_47 : decode cX9_hit 47 = .ok (.iconst 1, 1) := by decide +kernel
theorem dX9_hit_48 : decode cX9_hit 48 = .ok (.iadd, 1) := by decide +kernel
theorem dX9_hit_49 : decode cX9_hit 49 = .ok (.putfield 283, 3) := by decide +kernel
theorem dX9_hit_52 : decode cX9_hit 52 = .ok (.goto 22, 3) := by decide +kernel
theorem dX9_hit_55 : decode cX9_hit 55 = .ok (.aload_n 1, 1) := by decide +kernel
theorem dX9_hit_56 : decode cX9_hit 56 = .ok (.getfield 197, 3) := by decide +kernel
theorem dX9_hit_59 : decode cX9_hit 59 = .ok (.aload_n 2, 1) := by decide +kernel
theorem dX9_hit_60 : decode cX9_hit 60 = .ok (.getfield 123, 3) := by decide +kernel
theorem dX9_hit_63 : decode cX9_hit 63 = .ok (.aload_n 1, 1) := by decide +kernel
theorem dX9_hit_64 : decode cX9_hit 64 = .ok (.getfield 280, 3) := by decide +kernel
theorem dX9_hit_67 : decode cX9_hit 67 = .ok (.aload_n 1, 1) := by decide +kernel
theorem dX9_hit_68 : decode cX9_hit 68 = .ok (.getfield 171, 3) := by decide +kernel
theorem dX9_hit_71 : decode cX9_hit 71 = .ok (.invokevirtual 286, 3) := by decide +kernel
theorem dX9_hit_74 : decode cX9_hit 74 = .ok (.return_, 1) := by decide +kernel
theorem dX9_within_0 : decode cX9_within 0 = .ok (.iload_n 0, 1) := by decide +kernel
theorem dX9_within_1 : decode cX9_within 1 = .ok (.iload_n 1, 1) := by decide +kernel
theorem dX9_within_2 : decode cX9_within 2 = .ok (.if_icmp .lt 12, 3) := by decide +kernel
theorem dX9_within_5 : decode cX9_within 5 = .ok (.iload_n 0, 1) := by decide +kernel
theorem dX9_within_6 : decode cX9_within 6 = .ok (.iload_n 2, 1) := by decide +kernel
theorem dX9_within_7 : decode cX9_within 7 = .ok (.if_icmp .gt 7, 3) := by decide +kernel
theorem dX9_within_10 : decode cX9_within 10 = .ok (.iconst 1, 1) := by decide +kernel
theorem dX9_within_11 : decode cX9_within 11 = .ok (.goto 4, 3) := by decide +kernel
theorem dX9_within_14 : decode cX9_within 14 = .ok (.iconst 0, 1) := by decide +kernel
theorem dX9_within_15 : decode cX9_within 15 = .ok (.ireturn, 1) := by decide +kernel
theorem dX9_isNumber_0 : decode cX9_isNumber 0 = .ok (.iload_n 0, 1) := by decide +kernel
theorem dX9_isNumber_1 : decode cX9_isNumber 1 = .ok (.iconst 0, 1) := by decide +kernel
theorem dX9_isNumber_2 : decode cX9_isNumber 2 = .ok (.sipush 999, 3) := by decide +kernel
theorem dX9_isNumber_5 : decode cX9_isNumber 5 = .ok (.invokestatic 86, 3) := by decide +kernel
theorem dX9_isNumber_8 : decode cX9_isNumber 8 = .ok (.ireturn, 1) := by decide +kernel
theorem dX9_widthOf_0 : decode cX9_widthOf 0 = .ok (.iload_n 0, 1) := by decide +kernel
theorem dX9_widthOf_1 : decode cX9_widthOf 1 = .ok (.tableswitch 117 99 122 #[115, 111, 117, 117, 117, 111, 111, 115, 117, 113, 117, 117, 117, 113, 117, 111, 113, 117, 117, 117, 117, 117, 117, 115], 111) := by decide +kernel
theorem dX9_widthOf_112 : decode cX9_widthOf 112 = .ok (.iconst 1, 1) := by decide +kernel
theorem dX9_widthOf_113 : decode cX9_widthOf 113 = .ok (.ireturn, 1) := by decide +kernel
theorem dX9_widthOf_114 : decode cX9_widthOf 114 = .ok (.iconst 2, 1) := by decide +kernel
theorem dX9_widthOf_115 : decode cX9_widthOf 115 = .ok (.ireturn, 1) := by decide +kernel
theorem dX9_widthOf_116 : decode cX9_widthOf 116 = .ok (.iconst 3, 1) := by decide +kernel
theorem dX9_widthOf_117 : decode cX9_widthOf 117 = .ok (.ireturn, 1) := by decide +kernel
theorem dX9_widthOf_118 : decode cX9_widthOf 118 = .ok (.iconst 0, 1) := by decide +kernel
theorem dX9_widthOf_119 : decode cX9_widthOf 119 = .ok (.ireturn, 1) := by decide +kernel
theorem dX10_init_0 : decode cX10_init 0 = .ok (.aload_n 0, 1) := by decide +kernel
theorem dX10_init_1 : decode cX10_init 1 = .ok (.invokespecial 1, 3) := by decide +kernel
theorem dX10_init_4 : decode cX10_init 4 = .ok (.aload_n 0, 1) := by decide +kernel
theorem dX10_init_5 : decode cX10_init 5 = .ok (.sipush 200, 3) := by decide +kernel
theorem dX10_init_8 : decode cX10_init 8 = .ok (.newarray .int, 2) := by decide +kernel
theorem dX10_init_10 : decode cX10_init 10 = .ok (.putfield 7, 3) := by decide +kernel
theorem dX10_init_13 : decode cX10_init 13 = .ok (.aload_n 0, 1) := by decide +kernel
theorem dX10_init_14 : decode cX10_init 14 = .ok (.bipush 60, 2) := by decide +kernel
theorem dX10_init_16 : decode cX10_init 16 = .ok (.newarray .int, 2) := by decide +kernel
theorem dX10_init_18 : decode cX10_init 18 = .ok (.putfield 13, 3) := by decide +kernel
theorem dX10_init_21 : decode cX10_init 21 = .ok (.aload_n 0, 1) := by decide +kernel
theorem dX10_init_22 : decode cX10_init 22 = .ok (.bipush 60, 2) := by decide +kernel
theorem dX10_init_24 : decode cX10_init 24 = .ok (.newarray .boolean, 2) := by decide +kernel
theorem dX10_init_26 : decode cX10_init 26 = .ok (.putfield 16, 3) := by decide +kernel
theorem dX10_init_29 : decode cX10_init 29 = .ok (.aload_n 0, 1) := by decide +kernel
theorem dX10_init_30 : decode cX10_init 30 = .ok (.sipush 1318, 3) := by decide +kernel
theorem dX10_init_33 : decode cX10_init 33 = .ok (.newarray .int, 2) := by decide +kernel
theorem dX10_init_35 : decode cX10_init 35 = .ok (.putfield 20, 3) := by decide +kernel
theorem dX10_init_38 : decode cX10_init 38 = .ok (.aload_n 0, 1) := by decide +kernel
theorem dX10_init_39 : decode cX10_init 39 = .ok (.sipush 1318, 3) := by decide +kernel
theorem dX10_init_42 : decode cX10_init 42 = .ok (.newarray .int, 2) := by decide +kernel
theorem dX10_init_44 : decode cX10_init 44 = .ok (.putfield 23, 3) := by decide +kernel
theorem dX10_init_47 : decode cX10_init 47 = .ok (.aload_n 0, 1) := by decide +kernel
theorem dX10_init_48 : decode cX10_init 48 = .ok (.sipush 5272, 3) := by decide +kernel
theorem dX10_init_51 : decode cX10_init 51 = .ok (.newarray .int, 2) := by decide +kernel
theorem dX10_init_53 : decode cX10_init 53 = .ok (.putfield 26, 3) := by decide +kernel
theorem dX10_init_56 : decode cX10_init 56 = .ok (.aload_n 0, 1) := by decide +kernel
theorem dX10_init_57 : decode cX10_init 57 = .ok (.sipush 200, 3) := by decide +kernel
theorem dX10_init_60 : decode cX10_init 60 = .ok (.newarray .boolean, 2) := by decide +kernel
theorem dX10_init_62 : decode cX10_init 62 = .ok (.putfield 29, 3) := by decide +kernel
theorem dX10_init_65 : decode cX10_init 65 = .ok (.aload_n 0, 1) := by decide +kernel
theorem dX10_init_66 : decode cX10_init 66 = .ok (.iconst 5, 1) := by decide +kernel
theorem dX10_init_67 : decode cX10_init 67 = .ok (.newarray .int, 2) := by decide +kernel
theorem dX10_init_69 : decode cX10_init 69 = .ok (.putfield 32, 3) := by decide +kernel
theorem dX10_init_72 : decode cX10_init 72 = .ok (.aload_n 0, 1) := by decide +kernel
theorem dX10_init_73 : decode cX10_init 73 = .ok (.bipush 108, 2) := by decide +kernel
theorem dX10_init_75 : decode cX10_init 75 = .ok (.iconst 0, 1) := by decide +kernel
theorem dX10_init_76 : decode cX10_init 76 = .ok (.invokevirtual 35, 3) := by decide +kernel
theorem dX10_init_79 : decode cX10_init 79 = .ok (.aload_n 0, 1) := by decide +kernel
theorem dX10_init_80 : decode cX10_init 80 = .ok (.bipush 122, 2) := by decide +kernel
theorem dX10_init_82 : decode cX10_init 82 = .ok (.bipush 13, 2) := by decide +kernel
theorem dX10_init_84 : decode cX10_init 84 = .ok (.invokevirtual 39, 3) := by decide +kernel
theorem dX10_init_87 : decode cX10_init 87 = .ok (.aload_n 0, 1) := by decide +kernel
theorem dX10_init_88 : decode cX10_init 88 = .ok (.bipush 99, 2) := by decide +kernel
theorem dX10_init_90 : decode cX10_init 90 = .ok (.bipush 14, 2) := by decide +kernel
theorem dX10_init_92 : decode cX10_init 92 = .ok (.invokevirtual 39, 3) := by decide +kernel
theorem dX10_init_95 : decode cX10_init 95 = .ok (.aload_n 0, 1) := by decide +kernel
theorem dX10_init_96 : decode cX10_init 96 = .ok (.bipush 115, 2) := by decide +kernel
theorem dX10_init_98 : decode cX10_init 98 = .ok (.iconst 0, 1) := by decide +kernel
theorem dX10_init_99 : decode cX10_init 99 = .ok (.invokevirtual 35, 3) := by decide +kernel
theorem dX10_init_102 : decode cX10_init 102 = .ok (.aload_n 0, 1) := by decide +kernel
theorem dX10_init_103 : decode cX10_init 103 = .ok (.bipush 106, 2) := by decide +kernel
theorem dX10_init_105 : decode cX10_init 105 = .ok (.iconst 0, 1) := by decide +kernel
theorem dX10_init_106 : decode cX10_init 106 = .ok (.invokevirtual 39, 3) := by decide +kernel
theorem dX10_init_109 : decode cX10_init 109 = .ok (.aload_n 0, 1) := by decide +kernel
theorem dX10_init_110 : decode cX10_init 110 = .ok (.bipush 104, 2) := by decide +kernel
theorem dX10_init_112 : decode cX10_init 112 = .ok (.invokevirtual 42, 3) := by decide +kernel
theorem dX10_init_115 : decode cX10_init 115 = .ok (.aload_n 0, 1) := by decide +kernel
theorem dX10_init_116 : decode cX10_init 116 = .ok (.bipush 108, 2) := by decide +kernel
theorem dX10_init_118 : decode cX10_init 118 = .ok (.iconst 1, 1) := by decide +kernel
theorem dX10_init_119 : decode cX10_init 119 = .ok (.invokevirtual 35, 3) := by decide +kernel
theorem dX10_init_122 : decode cX10_init 122 = .ok (.aload_n 0, 1) := by decide +kernel
theorem dX10_init_123 : decode cX10_init 123 = .ok (.bipush 112, 2) := by decide +kernel
theorem dX10_init_125 : decode cX10_init 125 = .ok (.iconst 2, 1) := by decide +kernel
theorem dX10_init_126 : decode cX10_init 126 = .ok (.invokevirtual 35, 3) := by decide +kernel
theorem dX10_init_129 : decode cX10_init 129 = .ok (.aload_n 0, 1) := by decide +kernel
theorem dX10_init_130 : decode cX10_init 130 = .ok (.bipush 115, 2) := by decide +kernel
theorem dX10_init_132 : decode cX10_init 132 = .ok (.iconst 1, 1) := by decide +kernel
theorem dX10_init_133 : decode cX10_init 133 = .ok (.invokevirtual 35, 3) := by decide +kernel
theorem dX10_init_136 : decode cX10_init 136 = .ok (.aload_n 0, 1) := by decide +kernel
theorem dX10_init_137 : decode cX10_init 137 = .ok (.bipush 108, 2) := by decide +kernel
theorem dX10_init_139 : decode cX10_init 139 = .ok (.iconst 0, 1) := by decide +kernel
theorem dX10_init_140 : decode cX10_init 140 = .ok (.invokevirtual 35, 3) := by decide +kernel
theorem dX10_init_143 : decode cX10_init 143 = .ok (.aload_n 0, 1) := by decide +kernel
theorem dX10_init_144 : decode cX10_init 144 = .ok (.bipush 100, 2) := by decide +kernel
theorem dX10_init_146 : decode cX10_init 146 = .ok (.invokevirtual 42, 3) := by decide +kernel
theorem dX10_init_149 : decode cX10_init 149 = .ok (.aload_n 0, 1) := by decide +kernel
theorem dX10_init_150 : decode cX10_init 150 = .ok (.bipush 114, 2) := by decide +kernel
theorem dX10_init_152 : decode cX10_init 152 = .ok (.invokevirtual 42, 3) := by decide +kernel
theorem dX10_init_155 : decode cX10_init 155 = .ok (.aload_n 0, 1) := by decide +kernel
theorem dX10_init_156 : decode cX10_init 156 = .ok (.invokevirtual 46, 3) := by decide +kernel
theorem dX10_init_159 : decode cX10_init 159 = .ok (.return_, 1) := by decide +kernel
theorem dX10_none_0 : decode cX10_none 0 = .ok (.aload_n 0, 1) := by decide +kernel
theorem dX10_none_1 : decode cX10_none 1 = .ok (.getfield 16, 3) := by decide +kernel
theorem dX10_none_4 : decode cX10_none 4 = .ok (.aload_n 0, 1) := by decide +kernel
theorem dX10_none_5 : decode cX10_none 5 = .ok (.getfield 49, 3) := by decide +kernel
theorem dX10_none_8 : decode cX10_none 8 = .ok (.iconst 1, 1) := by decide +kernel
theorem dX10_none_9 : decode cX10_none 9 = .ok (.bastore, 1) := by decide +kernel
theorem dX10_none_10 : decode cX10_none 10 = .ok (.aload_n 0, 1) := by decide +kernel
theorem dX10_none_11 : decode cX10_none 11 = .ok (.getfield 13, 3) := by decide +kernel
theorem dX10_none_14 : decode cX10_none 14 = .ok (.aload_n 0, 1) := by decide +kernel
theorem dX10_none_15 : decode cX10_none 15 = .ok (.getfield 49, 3) := by decide +kernel
theorem dX10_none_18 : decode cX10_none 18 = .ok (.iload_n 1, 1) := by decide +kernel
theorem dX10_none_19 : decode cX10_none 19 = .ok (.iastore, 1) := by decide +kernel
theorem dX10_none_20 : decode cX10_none 20 = .ok (.aload_n 0, 1) := by decide +kernel
theorem dX10_none_21 : decode cX10_none 21 = .ok (.dup, 1) := by decide +kernel
theorem dX10_none_22 : decode cX10_none 22 = .ok (.getfield 49, 3) := by decide +kernel
theorem dX10_none_25 : decode cX10_none 25 = .ok (.iconst 1, 1) := by decide +kernel
theorem dX10_none_26 : decode cX10_none 26 = .ok (.iadd, 1) := by decide +kernel
theorem dX10_none_27 : decode cX10_none 27 = .ok (.putfield 49, 3) := by decide +kernel
theorem dX10_none_30 : decode cX10_none 30 = .ok (.return_, 1) := by decide +kernel
theorem dX10_one_0 : decode cX10_one 0 = .ok (.aload_n 0, 1) := by decide +kernel
theorem dX10_one_1 : decode cX10_one 1 = .ok (.iload_n 1, 1) := by decide +kernel
theorem dX10_one_2 : decode cX10_one 2 = .ok (.invokevirtual 42, 3) := by decide +kernel
theorem dX10_one_5 : decode cX10_one 5 = .ok (.aload_n 0, 1) := by decide +kernel
theorem dX10_one_6 : decode cX10_one 6 = .ok (.getfield 13, 3) := by decide +kernel
theorem dX10_one_9 : decode cX10_one 9 = .ok (.aload_n 0, 1) := by decide +kernel
theorem dX10_one_10 : decode cX10_one 10 = .ok (.getfield 49, 3) := by decide +kernel
theorem dX10_one_13 : decode cX10_one 13 = .ok (.bipush 48, 2) := by decide +kernel
theorem dX10_one_15 : decode cX10_one 15 = .ok (.iload_n 2, 1) := by decide +kernel
theorem dX10_one_16 : decode cX10_one 16 = .ok (.iadd, 1) := by decide +kernel
theorem dX10_one_17 : decode cX10_one 17 = .ok (.iastore, 1) := by decide +kernel
theorem dX10_one_18 : decode cX10_one 18 = .ok (.aload_n 0, 1) := by decide +kernel
theorem dX10_one_19 : decode cX10_one 19 = .ok (.dup, 1) := by decide +kernel
theorem dX10_one_20 : decode cX10_one 20 = .ok (.getfield 49, 3) := by decide +kernel
theorem dX10_one_23 : decode cX10_one 23 = .ok (.iconst 1, 1) := by decide +kernel
theorem dX10_one_24 : decode cX10_one 24 = .ok (.iadd, 1) := by decide +kernel
theorem dX10_one_25 : decode cX10_one 25 = .ok (.putfield 49, 3) := by decide +kernel
theorem dX10_one_28 : decode cX10_one 28 = .ok (.return_, 1) := by decide +kernel
theorem dX10_two_0 : decode cX10_two 0 = .ok (.aload_n 0, 1) := by decide +kernel
theorem dX10_two_1 : decode cX10_two 1 = .ok (.iload_n 1, 1) := by decide +kernel
theorem dX10_two_2 : decode cX10_two 2 = .ok (.iload_n 2, 1) := by decide +kernel
theorem dX10_two_3 : decode cX10_two 3 = .ok (.bipush 10, 2) := by decide +kernel
theorem dX10_two_5 : decode cX10_two 5 = .ok (.idiv, 1) := by decide +kernel
theorem dX10_two_6 : decode cX10_two 6 = .ok (.invokevirtual 35, 3) := by decide +kernel
theorem dX10_two_9 : decode cX10_two 9 = .ok (.aload_n 0, 1) := by decide +kernel
theorem dX10_two_10 : decode cX10_two 10 = .ok (.getfield 13, 3) := by decide +kernel
theorem dX10_two_13 : decode cX10_two 13 = .ok (.aload_n 0, 1) := by decide +kernel
theorem dX10_two_14 : decode cX10_two 14 = .ok (.getfield 49, 3) := by decide +kernel
theorem dX10_two_17 : decode cX10_two 17 = .ok (.bipush 48, 2) := by decide +kernel
theorem dX10_two_19 : decode cX10_two 19 = .ok (.iload_n 2, 1) := by decide +kernel
theorem dX10_two_20 : decode cX10_two 20 = .ok (.bipush 10, 2) := by decide +kernel
theorem dX10_two_22 : decode cX10_two 22 = .ok (.irem, 1) := by decide +kernel
theorem dX10_two_23 : decode cX10_two 23 = .ok (.iadd, 1) := by decide +kernel
theorem dX10_two_24 : decode cX10_two 24 = .ok (.iastore, 1) := by decide +kernel
theorem dX10_two_25 : decode cX10_two 25 = .ok (.aload_n 0, 1) := by decide +kernel
theorem dX10_two_26 : decode cX10_two 26 = .ok (.dup, 1) := by decide +kernel
theorem dX10_two_27 : decode cX10_two 27 = .ok (.getfield 49, 3) := by decide +kernel
theorem dX10_two_30 : decode cX10_two 30 = .ok (.iconst 1, 1) := by decide +kernel
theorem dX10_two_31 : decode cX10_two 31 = .ok (.iadd, 1) := by decide +kernel
theorem dX10_two_32 : decode cX10_two 32 = .ok (.putfield 49, 3) := by decide +kernel
theorem dX10_two_35 : decode cX10_two 35 = .ok (.return_, 1) := by decide +kernel
theorem dX10_empties_0 : decode cX10_empties 0 = .ok (.iconst 0, 1) := by decide +kernel
theorem dX10_empties_1 : decode cX10_empties 1 = .ok (.istore_n 1, 1) := by decide +kernel
theorem dX10_empties_2 : decode cX10_empties 2 = .ok (.iload_n 1, 1) := by decide +kernel
theorem dX10_empties_3 : decode cX10_empties 3 = .ok (.sipush 1318, 3) := by decide +kernel
theorem dX10_empties_6 : decode cX10_empties 6 = .ok (.if_icmp .ge 16, 3) := by decide +kernel
theorem dX10_empties_9 : decode cX10_empties 9 = .ok (.aload_n 0, 1) := by decide +kernel
theorem dX10_empties_10 : decode cX10_empties 10 = .ok (.getfield 20, 3) := by decide +kernel
theorem dX10_empties_13 : decode cX10_empties 13 = .ok (.iload_n 1, 1) := by decide +kernel
theorem dX10_empties_14 : decode cX10_empties 14 = .ok (.iconst 0, 1) := by decide +kernel
theorem dX10_empties_15 : decode cX10_empties 15 = .ok (.iastore, 1) := by decide +kernel
theorem dX10_empties_16 : decode cX10_empties 16 = .ok (.iinc 1 1, 3) := by decide +kernel
theorem dX10_empties_19 : decode cX10_empties 19 = .ok (.goto (-17), 3) := by decide +kernel
theorem dX10_empties_22 : decode cX10_empties 22 = .ok (.iconst 0, 1) := by decide +kernel
theorem dX10_empties_23 : decode cX10_empties 23 = .ok (.istore_n 1, 1) := by decide +kernel
theorem dX10_empties_24 : decode cX10_empties 24 = .ok (.iload_n 1, 1) := by decide +kernel
theorem dX10_empties_25 : decode cX10_empties 25 = .ok (.bipush 6, 2) := by decide +kernel
theorem dX10_empties_27 : decode cX10_empties 27 = .ok (.if_icmp .ge 23, 3) := by decide +kernel
theorem dX10_empties_30 : decode cX10_empties 30 = .ok (.aload_n 0, 1) := by decide +kernel
theorem dX10_empties_31 : decode cX10_empties 31 = .ok (.getfield 20, 3) := by decide +kernel
theorem dX10_empties_34 : decode cX10_empties 34 = .ok (.bipush 70, 2) := by decide +kernel
theorem dX10_empties_36 : decode cX10_empties 36 = .ok (.sipush 208, 3) := by decide +kernel
theorem dX10_empties_39 : decode cX10_empties 39 = .ok (.iload_n 1, 1) := by decide +kernel
theorem dX10_empties_40 : decode cX10_empties 40 = .ok (.imul, 1) := by decide +kernel
theorem dX10_empties_41 : decode cX10_empties 41 = .ok (.iadd, 1) := by decide +kernel
theorem dX10_empties_42 : decode cX10_empties 42 = .ok (.iconst 3, 1) := by decide +kernel
theorem dX10_empties_43 : decode cX10_empties 43 = .ok (.iastore, 1) := by decide +kernel
theorem dX10_empties_44 : decode cX10_empties 44 = .ok (.iinc 1 1, 3) := by decide +kernel
theorem dX10_empties_47 : decode cX10_empties 47 = .ok (.goto (-23), 3) := by decide +kernel
theorem dX10_empties_50 : decode cX10_empties 50 = .ok (.aload_n 0, 1) := by decide +kernel
theorem dX10_empties_51 : decode cX10_empties 51 = .ok (.iconst 0, 1) := by decide +kernel
theorem dX10_empties_52 : decode cX10_empties 52 = .ok (.putfield 53, 3) := by decide +kernel
theorem dX10_empties_55 : decode cX10_empties 55 = .ok (.return_, 1) := by decide +kernel
theorem dX10_isIn_0 : decode cX10_isIn 0 = .ok (.iload_n 0, 1) := by decide +kernel
theorem dX10_isIn_1 : decode cX10_isIn 1 = .ok (.iload_n 1, 1) := by decide +kernel
theorem dX10_isIn_2 : decode cX10_isIn 2 = .ok (.if_icmp .lt 12, 3) := by decide +kernel
theorem dX10_isIn_5 : decode cX10_isIn 5 = .ok (.iload_n 0, 1) := by decide +kernel
theorem dX10_isIn_6 : decode cX10_isIn 6 = .ok (.iload_n 2, 1) := by decide +kernel
theorem dX10_isIn_7 : decode cX10_isIn 7 = .ok (.if_icmp .gt 7, 3) := by decide +kernel
theorem dX10_isIn_10 : decode cX10_isIn 10 = .ok (.iconst 1, 1) := by decide +kernel
theorem dX10_isIn_11 : decode cX10_isIn 11 = .ok (.goto 4, 3) := by decide +kernel
theorem dX10_isIn_14 : decode cX10_isIn 14 = .ok (.iconst 0, 1) := by decide +kernel
theorem dX10_isIn_15 : decode cX10_isIn 15 = .ok (.ireturn, 1) := by decide +kernel
theorem dX10_isFigure_0 : decode cX10_isFigure 0 = .ok (.iload_n 1, 1) := by decide +kernel
theorem dX10_isFigure_1 : decode cX10_isFigure 1 = .ok (.aload_n 0, 1) := by decide +kernel
theorem dX10_isFigure_2 : decode cX10_isFigure 2 = .ok (.getfield 56, 3) := by decide +kernel
theorem dX10_isFigure_5 : decode cX10_isFigure 5 = .ok (.if_icmp .ge 25, 3) := by decide +kernel
theorem dX10_isFigure_8 : decode cX10_isFigure 8 = .ok (.aload_n 0, 1) := by decide +kernel
theorem dX10_isFigure_9 : decode cX10_isFigure 9 = .ok (.getfield 7, 3) := by decide +kernel
theorem dX10_isFigure_12 : decode cX10_isFigure 12 = .ok (.iload_n 1, 1) := by decide +kernel
theorem dX10_isFigure_13 : decode cX10_isFigure 13 = .ok (.iaload, 1) := by decide +kernel
theorem dX10_isFigure_14 : decode cX10_isFigure 14 = .ok (.bipush 48, 2) := by decide +kernel
theorem dX10_isFigure_16 : decode cX10_isFigure 16 = .ok (.bipush 48, 2) := by decide +kernel
theorem dX10_isFigure_18 : decode cX10_isFigure 18 = .ok (.iload_n 2, 1) := by decide +kernel
theorem dX10_isFigure_19 : decode cX10_isFigure 19 = .ok (.iadd, 1) := by decide +kernel
theorem dX10_isFigure_20 : decode cX10_isFigure 20 = .ok (.invokestatic 59, 3) := by decide +kernel
theorem dX10_isFigure_23 : decode cX10_isFigure 23 = .ok (.ifCond .eq 7, 3) := by decide +kernel
theorem dX10_isFigure_26 : decode cX10_isFigure 26 = .ok (.iconst 1, 1) := by decide +kernel
theorem dX10_isFigure_27 : decode cX10_isFigure 27 = .ok (.goto 4, 3) := by decide +kernel
theorem dX10_isFigure_30 : decode cX10_isFigure 30 = .ok (.iconst 0, 1) := by decide +kernel
theorem dX10_isFigure_31 : decode cX10_isFigure 31 = .ok (.ireturn, 1) := by decide +kernel
theorem dX10_wideAt_0 : decode cX10_wideAt 0 = .ok (.aload_n 0, 1) := by decide +kernel
theorem dX10_wideAt_1 : decode cX10_wideAt 1 = .ok (.getfield 7, 3) := by decide +kernel
theorem dX10_wideAt_4 : decode cX10_wideAt 4 = .ok (.iload_n 1, 1) := by decide +kernel
theorem dX10_wideAt_5 : decode cX10_wideAt 5 = .ok (.iaload, 1) := by decide +kernel
theorem dX10_wideAt_6 : decode cX10_wideAt 6 = .ok (.tableswitch 160 99 122 #[130, 110, 160, 160, 160, 110, 110, 130, 160, 112, 160, 160, 160, 112, 160, 110, 112, 160, 160, 160, 160, 160, 160, 130], 110) := by decide +kernel
theorem dX10_wideAt_116 : decode cX10_wideAt 116 = .ok (.iconst 1, 1) := by decide +kernel
