theorem dX0_init_0 : decode cX0_init 0 = .ok (.aload_n 0, 1) := by decide +kernel
theorem dX0_init_1 : decode cX0_init 1 = .ok (.invokespecial 3, 3) := by decide +kernel
theorem dX0_init_4 : decode cX0_init 4 = .ok (.aload_n 0, 1) := by decide +kernel
theorem dX0_init_5 : decode cX0_init 5 = .ok (.bipush 40, 2) := by decide +kernel
theorem dX0_init_7 : decode cX0_init 7 = .ok (.newarray .int, 2) := by decide +kernel
theorem dX0_init_9 : decode cX0_init 9 = .ok (.putfield 9, 3) := by decide +kernel
theorem dX0_init_12 : decode cX0_init 12 = .ok (.aload_n 0, 1) := by decide +kernel
theorem dX0_init_13 : decode cX0_init 13 = .ok (.bipush 40, 2) := by decide +kernel
theorem dX0_init_15 : decode cX0_init 15 = .ok (.newarray .int, 2) := by decide +kernel
theorem dX0_init_17 : decode cX0_init 17 = .ok (.putfield 15, 3) := by decide +kernel
theorem dX0_init_20 : decode cX0_init 20 = .ok (.aload_n 0, 1) := by decide +kernel
theorem dX0_init_21 : decode cX0_init 21 = .ok (.bipush 40, 2) := by decide +kernel
theorem dX0_init_23 : decode cX0_init 23 = .ok (.newarray .int, 2) := by decide +kernel
theorem dX0_init_25 : decode cX0_init 25 = .ok (.putfield 18, 3) := by decide +kernel
theorem dX0_init_28 : decode cX0_init 28 = .ok (.aload_n 0, 1) := by decide +kernel
theorem dX0_init_29 : decode cX0_init 29 = .ok (.bipush 40, 2) := by decide +kernel
theorem dX0_init_31 : decode cX0_init 31 = .ok (.newarray .int, 2) := by decide +kernel
theorem dX0_init_33 : decode cX0_init 33 = .ok (.putfield 21, 3) := by decide +kernel
theorem dX0_init_36 : decode cX0_init 36 = .ok (.aload_n 0, 1) := by decide +kernel
theorem dX0_init_37 : decode cX0_init 37 = .ok (.getfield 9, 3) := by decide +kernel
theorem dX0_init_40 : decode cX0_init 40 = .ok (.bipush 20, 2) := by decide +kernel
theorem dX0_init_42 : decode cX0_init 42 = .ok (.invokestatic 24, 3) := by decide +kernel
theorem dX0_init_45 : decode cX0_init 45 = .ok (.return_, 1) := by decide +kernel
theorem dX0_copyFrom_0 : decode cX0_copyFrom 0 = .ok (.aload_n 1, 1) := by decide +kernel
theorem dX0_copyFrom_1 : decode cX0_copyFrom 1 = .ok (.getfield 9, 3) := by decide +kernel
theorem dX0_copyFrom_4 : decode cX0_copyFrom 4 = .ok (.iconst 0, 1) := by decide +kernel
theorem dX0_copyFrom_5 : decode cX0_copyFrom 5 = .ok (.aload_n 0, 1) := by decide +kernel
theorem dX0_copyFrom_6 : decode cX0_copyFrom 6 = .ok (.getfield 9, 3) := by decide +kernel
theorem dX0_copyFrom_9 : decode cX0_copyFrom 9 = .ok (.iconst 0, 1) := by decide +kernel
theorem dX0_copyFrom_10 : decode cX0_copyFrom 10 = .ok (.bipush 40, 2) := by decide +kernel
theorem dX0_copyFrom_12 : decode cX0_copyFrom 12 = .ok (.invokestatic 30, 3) := by decide +kernel
theorem dX0_copyFrom_15 : decode cX0_copyFrom 15 = .ok (.aload_n 1, 1) := by decide +kernel
theorem dX0_copyFrom_16 : decode cX0_copyFrom 16 = .ok (.getfield 15, 3) := by decide +kernel
theorem dX0_copyFrom_19 : decode cX0_copyFrom 19 = .ok (.iconst 0, 1) := by decide +kernel
theorem dX0_copyFrom_20 : decode cX0_copyFrom 20 = .ok (.aload_n 0, 1) := by decide +kernel
theorem dX0_copyFrom_21 : decode cX0_copyFrom 21 = .ok (.getfield 15, 3) := by decide +kernel
theorem dX0_copyFrom_24 : decode cX0_copyFrom 24 = .ok (.iconst 0, 1) := by decide +kernel
theorem dX0_copyFrom_25 : decode cX0_copyFrom 25 = .ok (.bipush 40, 2) := by decide +kernel
theorem dX0_copyFrom_27 : decode cX0_copyFrom 27 = .ok (.invokestatic 30, 3) := by decide +kernel
theorem dX0_copyFrom_30 : decode cX0_copyFrom 30 = .ok (.aload_n 1, 1) := by decide +kernel
theorem dX0_copyFrom_31 : decode cX0_copyFrom 31 = .ok (.getfield 18, 3) := by decide +kernel
theorem dX0_copyFrom_34 : decode cX0_copyFrom 34 = .ok (.iconst 0, 1) := by decide +kernel
theorem dX0_copyFrom_35 : decode cX0_copyFrom 35 = .ok (.aload_n 0, 1) := by decide +kernel
theorem dX0_copyFrom_36 : decode cX0_copyFrom 36 = .ok (.getfield 18, 3) := by decide +kernel
theorem dX0_copyFrom_39 : decode cX0_copyFrom 39 = .ok (.iconst 0, 1) := by decide +kernel
theorem dX0_copyFrom_40 : decode cX0_copyFrom 40 = .ok (.bipush 40, 2) := by decide +kernel
theorem dX0_copyFrom_42 : decode cX0_copyFrom 42 = .ok (.invokestatic 30, 3) := by decide +kernel
theorem dX0_copyFrom_45 : decode cX0_copyFrom 45 = .ok (.aload_n 1, 1) := by decide +kernel
theorem dX0_copyFrom_46 : decode cX0_copyFrom 46 = .ok (.getfield 21, 3) := by decide +kernel
theorem dX0_copyFrom_49 : decode cX0_copyFrom 49 = .ok (.iconst 0, 1) := by decide +kernel
theorem dX0_copyFrom_50 : decode cX0_copyFrom 50 = .ok (.aload_n 0, 1) := by decide +kernel
theorem dX0_copyFrom_51 : decode cX0_copyFrom 51 = .ok (.getfield 21, 3) := by decide +kernel
theorem dX0_copyFrom_54 : decode cX0_copyFrom 54 = .ok (.iconst 0, 1) := by decide +kernel
theorem dX0_copyFrom_55 : decode cX0_copyFrom 55 = .ok (.bipush 40, 2) := by decide +kernel
theorem dX0_copyFrom_57 : decode cX0_copyFrom 57 = .ok (.invokestatic 30, 3) := by decide +kernel
theorem dX0_copyFrom_60 : decode cX0_copyFrom 60 = .ok (.return_, 1) := by decide +kernel
theorem dX0_deepen_0 : decode cX0_deepen 0 = .ok (.iload_n 1, 1) := by decide +kernel
theorem dX0_deepen_1 : decode cX0_deepen 1 = .ok (.invokestatic 36, 3) := by decide +kernel
theorem dX0_deepen_4 : decode cX0_deepen 4 = .ok (.ifCond .ne 5, 3) := by decide +kernel
theorem dX0_deepen_7 : decode cX0_deepen 7 = .ok (.iconst (-1), 1) := by decide +kernel
theorem dX0_deepen_8 : decode cX0_deepen 8 = .ok (.ireturn, 1) := by decide +kernel
theorem dX0_deepen_9 : decode cX0_deepen 9 = .ok (.iload_n 2, 1) := by decide +kernel
theorem dX0_deepen_10 : decode cX0_deepen 10 = .ok (.iconst 1, 1) := by decide +kernel
theorem dX0_deepen_11 : decode cX0_deepen 11 = .ok (.if_icmp .lt 9, 3) := by decide +kernel
theorem dX0_deepen_14 : decode cX0_deepen 14 = .ok (.iload_n 2, 1) := by decide +kernel
theorem dX0_deepen_15 : decode cX0_deepen 15 = .ok (.bipush 60, 2) := by decide +kernel
theorem dX0_deepen_17 : decode cX0_deepen 17 = .ok (.if_icmp .le 6, 3) := by decide +kernel
theorem dX0_deepen_20 : decode cX0_deepen 20 = .ok (.bipush (-2), 2) := by decide +kernel
theorem dX0_deepen_22 : decode cX0_deepen 22 = .ok (.ireturn, 1) := by decide +kernel
theorem dX0_deepen_23 : decode cX0_deepen 23 = .ok (.aload_n 0, 1) := by decide +kernel
theorem dX0_deepen_24 : decode cX0_deepen 24 = .ok (.getfield 18, 3) := by decide +kernel
theorem dX0_deepen_27 : decode cX0_deepen 27 = .ok (.iload_n 1, 1) := by decide +kernel
theorem dX0_deepen_28 : decode cX0_deepen 28 = .ok (.iaload, 1) := by decide +kernel
theorem dX0_deepen_29 : decode cX0_deepen 29 = .ok (.iload_n 2, 1) := by decide +kernel
theorem dX0_deepen_30 : decode cX0_deepen 30 = .ok (.if_icmp .gt 13, 3) := by decide +kernel
theorem dX0_deepen_33 : decode cX0_deepen 33 = .ok (.aload_n 0, 1) := by decide +kernel
theorem dX0_deepen_34 : decode cX0_deepen 34 = .ok (.getfield 15, 3) := by decide +kernel
theorem dX0_deepen_37 : decode cX0_deepen 37 = .ok (.iload_n 1, 1) := by decide +kernel
theorem dX0_deepen_38 : decode cX0_deepen 38 = .ok (.iaload, 1) := by decide +kernel
theorem dX0_deepen_39 : decode cX0_deepen 39 = .ok (.iload_n 2, 1) := by decide +kernel
theorem dX0_deepen_40 : decode cX0_deepen 40 = .ok (.if_icmp .le 6, 3) := by decide +kernel
theorem dX0_deepen_43 : decode cX0_deepen 43 = .ok (.bipush (-4), 2) := by decide +kernel
theorem dX0_deepen_45 : decode cX0_deepen 45 = .ok (.ireturn, 1) := by decide +kernel
theorem dX0_deepen_46 : decode cX0_deepen 46 = .ok (.aload_n 0, 1) := by decide +kernel
theorem dX0_deepen_47 : decode cX0_deepen 47 = .ok (.getfield 9, 3) := by decide +kernel
theorem dX0_deepen_50 : decode cX0_deepen 50 = .ok (.iload_n 1, 1) := by decide +kernel
theorem dX0_deepen_51 : decode cX0_deepen 51 = .ok (.iaload, 1) := by decide +kernel
theorem dX0_deepen_52 : decode cX0_deepen 52 = .ok (.istore_n 3, 1) := by decide +kernel
theorem dX0_deepen_53 : decode cX0_deepen 53 = .ok (.aload_n 0, 1) := by decide +kernel
theorem dX0_deepen_54 : decode cX0_deepen 54 = .ok (.getfield 9, 3) := by decide +kernel
theorem dX0_deepen_57 : decode cX0_deepen 57 = .ok (.iload_n 1, 1) := by decide +kernel
theorem dX0_deepen_58 : decode cX0_deepen 58 = .ok (.iload_n 2, 1) := by decide +kernel
theorem dX0_deepen_59 : decode cX0_deepen 59 = .ok (.iastore, 1) := by decide +kernel
theorem dX0_deepen_60 : decode cX0_deepen 60 = .ok (.iload_n 3, 1) := by decide +kernel
theorem dX0_deepen_61 : decode cX0_deepen 61 = .ok (.iload_n 2, 1) := by decide +kernel
theorem dX0_deepen_62 : decode cX0_deepen 62 = .ok (.if_icmp .ne 8, 3) := by decide +kernel
theorem dX0_deepen_65 : decode cX0_deepen 65 = .ok (.bipush (-5), 2) := by decide +kernel
theorem dX0_deepen_67 : decode cX0_deepen 67 = .ok (.goto 4, 3) := by decide +kernel
theorem dX0_deepen_70 : decode cX0_deepen 70 = .ok (.iload_n 3, 1) := by decide +kernel
theorem dX0_deepen_71 : decode cX0_deepen 71 = .ok (.ireturn, 1) := by decide +kernel
theorem dX0_raiseSill_0 : decode cX0_raiseSill 0 = .ok (.iload_n 1, 1) := by decide +kernel
theorem dX0_raiseSill_1 : decode cX0_raiseSill 1 = .ok (.invokestatic 36, 3) := by decide +kernel
theorem dX0_raiseSill_4 : decode cX0_raiseSill 4 = .ok (.ifCond .ne 5, 3) := by decide +kernel
theorem dX0_raiseSill_7 : decode cX0_raiseSill 7 = .ok (.iconst (-1), 1) := by decide +kernel
theorem dX0_raiseSill_8 : decode cX0_raiseSill 8 = .ok (.ireturn, 1) := by decide +kernel
theorem dX0_raiseSill_9 : decode cX0_raiseSill 9 = .ok (.iload_n 2, 1) := by decide +kernel
theorem dX0_raiseSill_10 : decode cX0_raiseSill 10 = .ok (.ifCond .lt 9, 3) := by decide +kernel
theorem dX0_raiseSill_13 : decode cX0_raiseSill 13 = .ok (.iload_n 2, 1) := by decide +kernel
theorem dX0_raiseSill_14 : decode cX0_raiseSill 14 = .ok (.bipush 60, 2) := by decide +kernel
theorem dX0_raiseSill_16 : decode cX0_raiseSill 16 = .ok (.if_icmp .le 6, 3) := by decide +kernel
theorem dX0_raiseSill_19 : decode cX0_raiseSill 19 = .ok (.bipush (-2), 2) := by decide +kernel
theorem dX0_raiseSill_21 : decode cX0_raiseSill 21 = .ok (.ireturn, 1) := by decide +kernel
theorem dX0_raiseSill_22 : decode cX0_raiseSill 22 = .ok (.iload_n 2, 1) := by decide +kernel
theorem dX0_raiseSill_23 : decode cX0_raiseSill 23 = .ok (.aload_n 0, 1) := by decide +kernel
theorem dX0_raiseSill_24 : decode cX0_raiseSill 24 = .ok (.getfield 9, 3) := by decide +kernel
theorem dX0_raiseSill_27 : decode cX0_raiseSill 27 = .ok (.iload_n 1, 1) := by decide +kernel
theorem dX0_raiseSill_28 : decode cX0_raiseSill 28 = .ok (.iaload, 1) := by decide +kernel
theorem dX0_raiseSill_29 : decode cX0_raiseSill 29 = .ok (.if_icmp .le 6, 3) := by decide +kernel
theorem dX0_raiseSill_32 : decode cX0_raiseSill 32 = .ok (.bipush (-4), 2) := by decide +kernel
theorem dX0_raiseSill_34 : decode cX0_raiseSill 34 = .ok (.ireturn, 1) := by decide +kernel
theorem dX0_raiseSill_35 : decode cX0_raiseSill 35 = .ok (.aload_n 0, 1) := by decide +kernel
theorem dX0_raiseSill_36 : decode cX0_raiseSill 36 = .ok (.getfield 15, 3) := by decide +kernel
theorem dX0_raiseSill_39 : decode cX0_raiseSill 39 = .ok (.iload_n 1, 1) := by decide +kernel
theorem dX0_raiseSill_40 : decode cX0_raiseSill 40 = .ok (.iaload, 1) := by decide +kernel
theorem dX0_raiseSill_41 : decode cX0_raiseSill 41 = .ok (.istore_n 3, 1) := by decide +kernel
theorem dX0_raiseSill_42 : decode cX0_raiseSill 42 = .ok (.aload_n 0, 1) := by decide +kernel
theorem dX0_raiseSill_43 : decode cX0_raiseSill 43 = .ok (.getfield 15, 3) := by decide +kernel
theorem dX0_raiseSill_46 : decode cX0_raiseSill 46 = .ok (.iload_n 1, 1) := by decide +kernel
theorem dX0_raiseSill_47 : decode cX0_raiseSill 47 = .ok (.iload_n 2, 1) := by decide +kernel
theorem dX0_raiseSill_48 : decode cX0_raiseSill 48 = .ok (.iastore, 1) := by decide +kernel
theorem dX0_raiseSill_49 : decode cX0_raiseSill 49 = .ok (.iload_n 3, 1) := by decide +kernel
theorem dX0_raiseSill_50 : decode cX0_raiseSill 50 = .ok (.iload_n 2, 1) := by decide +kernel
theorem dX0_raiseSill_51 : decode cX0_raiseSill 51 = .ok (.if_icmp .ne 8, 3) := by decide +kernel
theorem dX0_raiseSill_54 : decode cX0_raiseSill 54 = .ok (.bipush (-5), 2) := by decide +kernel
theorem dX0_raiseSill_56 : decode cX0_raiseSill 56 = .ok (.goto 4, 3) := by decide +kernel
theorem dX0_raiseSill_59 : decode cX0_raiseSill 59 = .ok (.iload_n 3, 1) := by decide +kernel
theorem dX0_raiseSill_60 : decode cX0_raiseSill 60 = .ok (.ireturn, 1) := by decide +kernel
theorem dX0_markFrom_0 : decode cX0_markFrom 0 = .ok (.iload_n 1, 1) := by decide +kernel
theorem dX0_markFrom_1 : decode cX0_markFrom 1 = .ok (.invokestatic 36, 3) := by decide +kernel
theorem dX0_markFrom_4 : decode cX0_markFrom 4 = .ok (.ifCond .eq 13, 3) := by decide +kernel
theorem dX0_markFrom_7 : decode cX0_markFrom 7 = .ok (.iload_n 2, 1) := by decide +kernel
theorem dX0_markFrom_8 : decode cX0_markFrom 8 = .ok (.aload_n 0, 1) := by decide +kernel
theorem dX0_markFrom_9 : decode cX0_markFrom 9 = .ok (.getfield 15, 3) := by decide +kernel
theorem dX0_markFrom_12 : decode cX0_markFrom 12 = .ok (.iload_n 1, 1) := by decide +kernel
theorem dX0_markFrom_13 : decode cX0_markFrom 13 = .ok (.iaload, 1) := by decide +kernel
theorem dX0_markFrom_14 : decode cX0_markFrom 14 = .ok (.if_icmp .gt 5, 3) := by decide +kernel
theorem dX0_markFrom_17 : decode cX0_markFrom 17 = .ok (.iconst 0, 1) := by decide +kernel
theorem dX0_markFrom_18 : decode cX0_markFrom 18 = .ok (.ireturn, 1) := by decide +kernel
theorem dX0_markFrom_19 : decode cX0_markFrom 19 = .ok (.iload_n 2, 1) := by decide +kernel
theorem dX0_markFrom_20 : decode cX0_markFrom 20 = .ok (.aload_n 0, 1) := by decide +kernel
theorem dX0_markFrom_21 : decode cX0_markFrom 21 = .ok (.getfield 9, 3) := by decide +kernel
theorem dX0_markFrom_24 : decode cX0_markFrom 24 = .ok (.iload_n 1, 1) := by decide +kernel
theorem dX0_markFrom_25 : decode cX0_markFrom 25 = .ok (.iaload, 1) := by decide +kernel
theorem dX0_markFrom_26 : decode cX0_markFrom 26 = .ok (.invokestatic 40, 3) := by decide +kernel
theorem dX0_markFrom_29 : decode cX0_markFrom 29 = .ok (.ireturn, 1) := by decide +kernel
theorem dX0_offeredTo_0 : decode cX0_offeredTo 0 = .ok (.iload_n 2, 1) := by decide +kernel
theorem dX0_offeredTo_1 : decode cX0_offeredTo 1 = .ok (.istore 4, 2) := by decide +kernel
theorem dX0_offeredTo_3 : decode cX0_offeredTo 3 = .ok (.iconst 0, 1) := by decide +kernel
theorem dX0_offeredTo_4 : decode cX0_offeredTo 4 = .ok (.istore 5, 2) := by decide +kernel
theorem dX0_offeredTo_6 : decode cX0_offeredTo 6 = .ok (.iload 5, 2) := by decide +kernel
theorem dX0_offeredTo_8 : decode cX0_offeredTo 8 = .ok (.iload_n 1, 1) := by decide +kernel
theorem dX0_offeredTo_9 : decode cX0_offeredTo 9 = .ok (.if_icmp .ge 28, 3) := by decide +kernel
theorem dX0_offeredTo_12 : decode cX0_offeredTo 12 = .ok (.iload 5, 2) := by decide +kernel
theorem dX0_offeredTo_14 : decode cX0_offeredTo 14 = .ok (.bipush 40, 2) := by decide +kernel
theorem dX0_offeredTo_16 : decode cX0_offeredTo 16 = .ok (.if_icmp .ge 21, 3) := by decide +kernel
theorem dX0_offeredTo_19 : decode cX0_offeredTo 19 = .ok (.aload_n 0, 1) := by decide +kernel
theorem dX0_offeredTo_20 : decode cX0_offeredTo 20 = .ok (.iload 5, 2) := by decide +kernel
theorem dX0_offeredTo_22 : decode cX0_offeredTo 22 = .ok (.iload 4, 2) := by decide +kernel
theorem dX0_offeredTo_24 : decode cX0_offeredTo 24 = .ok (.invokevirtual 46, 3) := by decide +kernel
theorem dX0_offeredTo_27 : decode cX0_offeredTo 27 = .ok (.iload_n 3, 1) := by decide +kernel
theorem dX0_offeredTo_28 : decode cX0_offeredTo 28 = .ok (.isub, 1) := by decide +kernel
theorem dX0_offeredTo_29 : decode cX0_offeredTo 29 = .ok (.istore 4, 2) := by decide +kernel
theorem dX0_offeredTo_31 : decode cX0_offeredTo 31 = .ok (.iinc 5 1, 3) := by decide +kernel
theorem dX0_offeredTo_34 : decode cX0_offeredTo 34 = .ok (.goto (-28), 3) := by decide +kernel
theorem dX0_offeredTo_37 : decode cX0_offeredTo 37 = .ok (.iload 4, 2) := by decide +kernel
theorem dX0_offeredTo_39 : decode cX0_offeredTo 39 = .ok (.ireturn, 1) := by decide +kernel
theorem dX0_markOf_0 : decode cX0_markOf 0 = .ok (.aload_n 0, 1) := by decide +kernel
theorem dX0_markOf_1 : decode cX0_markOf 1 = .ok (.iload_n 1, 1) := by decide +kernel
theorem dX0_markOf_2 : decode cX0_markOf 2 = .ok (.aload_n 0, 1) := by decide +kernel
theorem dX0_markOf_3 : decode cX0_markOf 3 = .ok (.iload_n 1, 1) := by decide +kernel
theorem dX0_markOf_4 : decode cX0_markOf 4 = .ok (.iload_n 2, 1) := by decide +kernel
theorem dX0_markOf_5 : decode cX0_markOf 5 = .ok (.iload_n 3, 1) := by decide +kernel
theorem dX0_markOf_6 : decode cX0_markOf 6 = .ok (.invokevirtual 49, 3) := by decide +kernel
theorem dX0_markOf_9 : decode cX0_markOf 9 = .ok (.invokevirtual 46, 3) := by decide +kernel
theorem dX0_markOf_12 : decode cX0_markOf 12 = .ok (.ireturn, 1) := by decide +kernel
theorem dX0_stopOf_0 : decode cX0_stopOf 0 = .ok (.iload_n 1, 1) := by decide +kernel
theorem dX0_stopOf_1 : decode cX0_stopOf 1 = .ok (.istore_n 3, 1) := by decide +kernel
theorem dX0_stopOf_2 : decode cX0_stopOf 2 = .ok (.iconst 0, 1) := by decide +kernel
theorem dX0_stopOf_3 : decode cX0_stopOf 3 = .ok (.istore 4, 2) := by decide +kernel
theorem dX0_stopOf_5 : decode cX0_stopOf 5 = .ok (.iload 4, 2) := by decide +kernel
theorem dX0_stopOf_7 : decode cX0_stopOf 7 = .ok (.bipush 40, 2) := by decide +kernel
theorem dX0_stopOf_9 : decode cX0_stopOf 9 = .ok (.if_icmp .ge 31, 3) := by decide +kernel
theorem dX0_stopOf_12 : decode cX0_stopOf 12 = .ok (.aload_n 0, 1) := by decide +kernel
theorem dX0_stopOf_13 : decode cX0_stopOf 13 = .ok (.iload 4, 2) := by decide +kernel
theorem dX0_stopOf_15 : decode cX0_stopOf 15 = .ok (.iload_n 3, 1) := by decide +kernel
theorem dX0_stopOf_16 : decode cX0_stopOf 16 = .ok (.invokevirtual 46, 3) := by decide +kernel
theorem dX0_stopOf_19 : decode cX0_stopOf 19 = .ok (.istore 5, 2) := by decide +kernel
theorem dX0_stopOf_21 : decode cX0_stopOf 21 = .ok (.iload 5, 2) := by decide +kernel
theorem dX0_stopOf_23 : decode cX0_stopOf 23 = .ok (.ifCond .ne 6, 3) := by decide +kernel
theorem dX0_stopOf_26 : decode cX0_stopOf 26 = .ok (.iload 4, 2) := by decide +kernel
theorem dX0_stopOf_28 : decode cX0_stopOf 28 = .ok (.ireturn, 1) := by decide +kernel
theorem dX0_stopOf_29 : decode cX0_stopOf 29 = .ok (.iload 5, 2) := by decide +kernel
theorem dX0_stopOf_31 : decode cX0_stopOf 31 = .ok (.iload_n 2, 1) := by decide +kernel
theorem dX0_stopOf_32 : decode cX0_stopOf 32 = .ok (.isub, 1) := by decide +kernel
theorem dX0_stopOf_33 : decode cX0_stopOf 33 = .ok (.istore_n 3, 1) := by decide +kernel
theorem dX0_stopOf_34 : decode cX0_stopOf 34 = .ok (.iinc 4 1, 3) := by decide +kernel
theorem dX0_stopOf_37 : decode cX0_stopOf 37 = .ok (.goto (-32), 3) := by decide +kernel
theorem dX0_stopOf_40 : decode cX0_stopOf 40 = .ok (.bipush 40, 2) := by decide +kernel
theorem dX0_stopOf_42 : decode cX0_stopOf 42 = .ok (.ireturn, 1) := by decide +kernel
theorem dX0_reasonOf_0 : decode cX0_reasonOf 0 = .ok (.aload_n 0, 1) := by decide +kernel
theorem dX0_reasonOf_1 : decode cX0_reasonOf 1 = .ok (.iload_n 2, 1) := by decide +kernel
theorem dX0_reasonOf_2 : decode cX0_reasonOf 2 = .ok (.iload_n 3, 1) := by decide +kernel
theorem dX0_reasonOf_3 : decode cX0_reasonOf 3 = .ok (.invokevirtual 53, 3) := by decide +kernel
theorem dX0_reasonOf_6 : decode cX0_reasonOf 6 = .ok (.istore 4, 2) := by decide +kernel
theorem dX0_reasonOf_8 : decode cX0_reasonOf 8 = .ok (.iload_n 1, 1) := by decide +kernel
theorem dX0_reasonOf_9 : decode cX0_reasonOf 9 = .ok (.iload 4, 2) := by decide +kernel
theorem dX0_reasonOf_11 : decode cX0_reasonOf 11 = .ok (.if_icmp .ge 5, 3) := by decide +kernel
theorem dX0_reasonOf_14 : decode cX0_reasonOf 14 = .ok (.iconst 0, 1) := by decide +kernel
theorem dX0_reasonOf_15 : decode cX0_reasonOf 15 = .ok (.ireturn, 1) := by decide +kernel
theorem dX0_reasonOf_16 : decode cX0_reasonOf 16 = .ok (.iload_n 2, 1) := by decide +kernel
theorem dX0_reasonOf_17 : decode cX0_reasonOf 17 = .ok (.ifCond .gt 5, 3) := by decide +kernel
theorem dX0_reasonOf_20 : decode cX0_reasonOf 20 = .ok (.iconst 1, 1) := by decide +kernel
theorem dX0_reasonOf_21 : decode cX0_reasonOf 21 = .ok (.ireturn, 1) := by decide +kernel
theorem dX0_reasonOf_22 : decode cX0_reasonOf 22 = .ok (.aload_n 0, 1) := by decide +kernel
theorem dX0_reasonOf_23 : decode cX0_reasonOf 23 = .ok (.iload 4, 2) := by decide +kernel
theorem dX0_reasonOf_25 : decode cX0_reasonOf 25 = .ok (.iload_n 2, 1) := by decide +kernel
theorem dX0_reasonOf_26 : decode cX0_reasonOf 26 = .ok (.iload_n 3, 1) := by decide +kernel
theorem dX0_reasonOf_27 : decode cX0_reasonOf 27 = .ok (.invokevirtual 49, 3) := by decide +kernel
theorem dX0_reasonOf_30 : decode cX0_reasonOf 30 = .ok (.ifCond .le 7, 3) := by decide +kernel
theorem dX0_reasonOf_33 : decode cX0_reasonOf 33 = .ok (.iconst 2, 1) := by decide +kernel
theorem dX0_reasonOf_34 : decode cX0_reasonOf 34 = .ok (.goto 4, 3) := by decide +kernel
theorem dX0_reasonOf_37 : decode cX0_reasonOf 37 = .ok (.iconst 3, 1) := by decide +kernel
theorem dX0_reasonOf_38 : decode cX0_reasonOf 38 = .ok (.ireturn, 1) := by decide +kernel
theorem dX0_bestCellFor_0 : decode cX0_bestCellFor 0 = .ok (.iload_n 2, 1) := by decide +kernel
theorem dX0_bestCellFor_1 : decode cX0_bestCellFor 1 = .ok (.istore 4, 2) := by decide +kernel
theorem dX0_bestCellFor_3 : decode cX0_bestCellFor 3 = .ok (.iconst 0, 1) := by decide +kernel
theorem dX0_bestCellFor_4 : decode cX0_bestCellFor 4 = .ok (.istore 5, 2) := by decide +kernel
theorem dX0_bestCellFor_6 : decode cX0_bestCellFor 6 = .ok (.iload 5, 2) := by decide +kernel
theorem dX0_bestCellFor_8 : decode cX0_bestCellFor 8 = .ok (.bipush 40, 2) := by decide +kernel
theorem dX0_bestCellFor_10 : decode cX0_bestCellFor 10 = .ok (.if_icmp .ge 64, 3) := by decide +kernel
theorem dX0_bestCellFor_13 : decode cX0_bestCellFor 13 = .ok (.aload_n 0, 1) := by decide +kernel
theorem dX0_bestCellFor_14 : decode cX0_bestCellFor 14 = .ok (.iload 5, 2) := by decide +kernel
theorem dX0_bestCellFor_16 : decode cX0_bestCellFor 16 = .ok (.iload 4, 2) := by decide +kernel
theorem dX0_bestCellFor_18 : decode cX0_bestCellFor 18 = .ok (.invokevirtual 46, 3) := by decide +kernel
theorem dX0_bestCellFor_21 : decode cX0_bestCellFor 21 = .ok (.istore 6, 2) := by decide +kernel
theorem dX0_bestCellFor_23 : decode cX0_bestCellFor 23 = .ok (.iload 6, 2) := by decide +kernel
theorem dX0_bestCellFor_25 : decode cX0_bestCellFor 25 = .ok (.ifCond .ne 6, 3) := by decide +kernel
theorem dX0_bestCellFor_28 : decode cX0_bestCellFor 28 = .ok (.bipush (-5), 2) := by decide +kernel
theorem dX0_bestCellFor_30 : decode cX0_bestCellFor 30 = .ok (.ireturn, 1) := by decide +kernel
theorem dX0_bestCellFor_31 : decode cX0_bestCellFor 31 = .ok (.iload 4, 2) := by decide +kernel
theorem dX0_bestCellFor_33 : decode cX0_bestCellFor 33 = .ok (.iload_n 1, 1) := by decide +kernel
theorem dX0_bestCellFor_34 : decode cX0_bestCellFor 34 = .ok (.if_icmp .gt 28, 3) := by decide +kernel
theorem dX0_bestCellFor_37 : decode cX0_bestCellFor 37 = .ok (.aload_n 0, 1) := by decide +kernel
theorem dX0_bestCellFor_38 : decode cX0_bestCellFor 38 = .ok (.getfield 15, 3) := by decide +kernel
theorem dX0_bestCellFor_41 : decode cX0_bestCellFor 41 = .ok (.iload 5, 2) := by decide +kernel
theorem dX0_bestCellFor_43 : decode cX0_bestCellFor 43 = .ok (.iaload, 1) := by decide +kernel
theorem dX0_bestCellFor_44 : decode cX0_bestCellFor 44 = .ok (.iload_n 1, 1) := by decide +kernel
theorem dX0_bestCellFor_45 : decode cX0_bestCellFor 45 = .ok (.if_icmp .ge 17, 3) := by decide +kernel
theorem dX0_bestCellFor_48 : decode cX0_bestCellFor 48 = .ok (.aload_n 0, 1) := by decide +kernel
theorem dX0_bestCellFor_49 : decode cX0_bestCellFor 49 = .ok (.getfield 9, 3) := by decide +kernel
theorem dX0_bestCellFor_52 : decode cX0_bestCellFor 52 = .ok (.iload 5, 2) := by decide +kernel
theorem dX0_bestCellFor_54 : decode cX0_bestCellFor 54 = .ok (.iaload, 1) := by decide +kernel
theorem dX0_bestCellFor_55 : decode cX0_bestCellFor 55 = .ok (.iload_n 1, 1) := by decide +kernel
theorem dX0_bestCellFor_56 : decode cX0_bestCellFor 56 = .ok (.if_icmp .lt 6, 3) := by decide +kernel
theorem dX0_bestCellFor_59 : decode cX0_bestCellFor 59 = .ok (.iload 5, 2) := by decide +kernel
theorem dX0_bestCellFor_61 : decode cX0_bestCellFor 61 = .ok (.ireturn, 1) := by decide +kernel
theorem dX0_bestCellFor_62 : decode cX0_bestCellFor 62 = .ok (.iload 6, 2) := by decide +kernel
theorem dX0_bestCellFor_64 : decode cX0_bestCellFor 64 = .ok (.iload_n 3, 1) := by decide +kernel
theorem dX0_bestCellFor_65 : decode cX0_bestCellFor 65 = .ok (.isub, 1) := by decide +kernel
theorem dX0_bestCellFor_66 : decode cX0_bestCellFor 66 = .ok (.istore 4, 2) := by decide +kernel
theorem dX0_bestCellFor_68 : decode cX0_bestCellFor 68 = .ok (.iinc 5 1, 3) := by decide +kernel
theorem dX0_bestCellFor_71 : decode cX0_bestCellFor 71 = .ok (.goto (-65), 3) := by decide +kernel
theorem dX0_bestCellFor_74 : decode cX0_bestCellFor 74 = .ok (.bipush (-5), 2) := by decide +kernel
theorem dX0_bestCellFor_76 : decode cX0_bestCellFor 76 = .ok (.ireturn, 1) := by decide +kernel
theorem dX0_follow_0 : decode cX0_follow 0 = .ok (.iload_n 1, 1) := by decide +kernel
theorem dX0_follow_1 : decode cX0_follow 1 = .ok (.istore 4, 2) := by decide +kernel
theorem dX0_follow_3 : decode cX0_follow 3 = .ok (.iconst 0, 1) := by decide +kernel
theorem dX0_follow_4 : decode cX0_follow 4 = .ok (.istore 5, 2) := by decide +kernel
theorem dX0_follow_6 : decode cX0_follow 6 = .ok (.iload 5, 2) := by decide +kernel
theorem dX0_follow_8 : decode cX0_follow 8 = .ok (.bipush 40, 2) := by decide +kernel
theorem dX0_follow_10 : decode cX0_follow 10 = .ok (.if_icmp .ge 66, 3) := by decide +kernel
theorem dX0_follow_13 : decode cX0_follow 13 = .ok (.aload_n 0, 1) := by decide +kernel
theorem dX0_follow_14 : decode cX0_follow 14 = .ok (.iload 5, 2) := by decide +kernel
theorem dX0_follow_16 : decode cX0_follow 16 = .ok (.iload 4, 2) := by decide +kernel
theorem dX0_follow_18 : decode cX0_follow 18 = .ok (.invokevirtual 46, 3) := by decide +kernel
theorem dX0_follow_21 : decode cX0_follow 21 = .ok (.istore 6, 2) := by decide +kernel
theorem dX0_follow_23 : decode cX0_follow 23 = .ok (.aload_n 0, 1) := by decide +kernel
theorem dX0_follow_24 : decode cX0_follow 24 = .ok (.getfield 18, 3) := by decide +kernel
theorem dX0_follow_27 : decode cX0_follow 27 = .ok (.iload 5, 2) := by decide +kernel
theorem dX0_follow_29 : decode cX0_follow 29 = .ok (.aload_n 0, 1) := by decide +kernel
theorem dX0_follow_30 : decode cX0_follow 30 = .ok (.getfield 18, 3) := by decide +kernel
theorem dX0_follow_33 : decode cX0_follow 33 = .ok (.iload 5, 2) := by decide +kernel
theorem dX0_follow_35 : decode cX0_follow 35 = .ok (.iaload, 1) := by decide +kernel
theorem dX0_follow_36 : decode cX0_follow 36 = .ok (.iload 6, 2) := by decide +kernel
theorem dX0_follow_38 : decode cX0_follow 38 = .ok (.iload_n 3, 1) := by decide +kernel
theorem dX0_follow_39 : decode cX0_follow 39 = .ok (.invokestatic 56, 3) := by decide +kernel
theorem dX0_follow_42 : decode cX0_follow 42 = .ok (.iastore, 1) := by decide +kernel
theorem dX0_follow_43 : decode cX0_follow 43 = .ok (.aload_n 0, 1) := by decide +kernel
theorem dX0_follow_44 : decode cX0_follow 44 = .ok (.getfield 18, 3) := by decide +kernel
theorem dX0_follow_47 : decode cX0_follow 47 = .ok (.iload 5, 2) := by decide +kernel
theorem dX0_follow_49 : decode cX0_follow 49 = .ok (.iaload, 1) := by decide +kernel
theorem dX0_follow_50 : decode cX0_follow 50 = .ok (.ifCond .le 14, 3) := by decide +kernel
theorem dX0_follow_53 : decode cX0_follow 53 = .ok (.aload_n 0, 1) := by decide +kernel
theorem dX0_follow_54 : decode cX0_follow 54 = .ok (.getfield 21, 3) := by decide +kernel
theorem dX0_follow_57 : decode cX0_follow 57 = .ok (.iload 5, 2) := by decide +kernel
theorem dX0_follow_59 : decode cX0_follow 59 = .ok (.dup2, 1) := by decide +kernel
theorem dX0_follow_60 : decode cX0_follow 60 = .ok (.iaload, 1) := by decide +kernel
theorem dX0_follow_61 : decode cX0_follow 61 = .ok (.iconst 1, 1) := by decide +kernel
theorem dX0_follow_62 : decode cX0_follow 62 = .ok (.iadd, 1) := by decide +kernel
theorem dX0_follow_63 : decode cX0_follow 63 = .ok (.iastore, 1) := by decide +kernel
theorem dX0_follow_64 : decode cX0_follow 64 = .ok (.iload 6, 2) := by decide +kernel
theorem dX0_follow_66 : decode cX0_follow 66 = .ok (.iload_n 2, 1) := by decide +kernel
theorem dX0_follow_67 : decode cX0_follow 67 = .ok (.isub, 1) := by decide +kernel
theorem dX0_follow_68 : decode cX0_follow 68 = .ok (.istore 4, 2) := by decide +kernel
theorem dX0_follow_70 : decode cX0_follow 70 = .ok (.iinc 5 1, 3) := by decide +kernel
theorem dX0_follow_73 : decode cX0_follow 73 = .ok (.goto (-67), 3) := by decide +kernel
theorem dX0_follow_76 : decode cX0_follow 76 = .ok (.return_, 1) := by decide +kernel
theorem dX0_moved_0 : decode cX0_moved 0 = .ok (.iload_n 1, 1) := by decide +kernel
theorem dX0_moved_1 : decode cX0_moved 1 = .ok (.iload_n 0, 1) := by decide +kernel
theorem dX0_moved_2 : decode cX0_moved 2 = .ok (.if_icmp .le 11, 3) := by decide +kernel
theorem dX0_moved_5 : decode cX0_moved 5 = .ok (.iload_n 1, 1) := by decide +kernel
theorem dX0_moved_6 : decode cX0_moved 6 = .ok (.iload_n 0, 1) := by decide +kernel
theorem dX0_moved_7 : decode cX0_moved 7 = .ok (.iload_n 2, 1) := by decide +kernel
theorem dX0_moved_8 : decode cX0_moved 8 = .ok (.iadd, 1) := by decide +kernel
theorem dX0_moved_9 : decode cX0_moved 9 = .ok (.invokestatic 40, 3) := by decide +kernel
theorem dX0_moved_12 : decode cX0_moved 12 = .ok (.ireturn, 1) := by decide +kernel
theorem dX0_moved_13 : decode cX0_moved 13 = .ok (.iload_n 1, 1) := by decide +kernel
theorem dX0_moved_14 : decode cX0_moved 14 = .ok (.iload_n 0, 1) := by decide +kernel
theorem dX0_moved_15 : decode cX0_moved 15 = .ok (.iload_n 2, 1) := by decide +kernel
theorem dX0_moved_16 : decode cX0_moved 16 = .ok (.isub, 1) := by decide +kernel
theorem dX0_moved_17 : decode cX0_moved 17 = .ok (.invokestatic 59, 3) := by decide +kernel
theorem dX0_moved_20 : decode cX0_moved 20 = .ok (.ireturn, 1) := by decide +kernel
theorem dX0_excess_0 : decode cX0_excess 0 = .ok (.iload_n 1, 1) := by decide +kernel
theorem dX0_excess_1 : decode cX0_excess 1 = .ok (.invokestatic 36, 3) := by decide +kernel
theorem dX0_excess_4 : decode cX0_excess 4 = .ok (.ifCond .ne 5, 3) := by decide +kernel
theorem dX0_excess_7 : decode cX0_excess 7 = .ok (.iconst 0, 1) := by decide +kernel
theorem dX0_excess_8 : decode cX0_excess 8 = .ok (.ireturn, 1) := by decide +kernel
theorem dX0_excess_9 : decode cX0_excess 9 = .ok (.aload_n 0, 1) := by decide +kernel
theorem dX0_excess_10 : decode cX0_excess 10 = .ok (.getfield 18, 3) := by decide +kernel
theorem dX0_excess_13 : decode cX0_excess 13 = .ok (.iload_n 1, 1) := by decide +kernel
theorem dX0_excess_14 : decode cX0_excess 14 = .ok (.iaload, 1) := by decide +kernel
theorem dX0_excess_15 : decode cX0_excess 15 = .ok (.iload_n 2, 1) := by decide +kernel
theorem dX0_excess_16 : decode cX0_excess 16 = .ok (.iadd, 1) := by decide +kernel
theorem dX0_excess_17 : decode cX0_excess 17 = .ok (.aload_n 0, 1) := by decide +kernel
theorem dX0_excess_18 : decode cX0_excess 18 = .ok (.getfield 9, 3) := by decide +kernel
theorem dX0_excess_21 : decode cX0_excess 21 = .ok (.iload_n 1, 1) := by decide +kernel
theorem dX0_excess_22 : decode cX0_excess 22 = .ok (.iaload, 1) := by decide +kernel
theorem dX0_excess_23 : decode cX0_excess 23 = .ok (.aload_n 0, 1) := by decide +kernel
theorem dX0_excess_24 : decode cX0_excess 24 = .ok (.getfield 15, 3) := by decide +kernel
theorem dX0_excess_27 : decode cX0_excess 27 = .ok (.iload_n 1, 1) := by decide +kernel
theorem dX0_excess_28 : decode cX0_excess 28 = .ok (.iaload, 1) := by decide +kernel
theorem dX0_excess_29 : decode cX0_excess 29 = .ok (.isub, 1) := by decide +kernel
theorem dX0_excess_30 : decode cX0_excess 30 = .ok (.isub, 1) := by decide +kernel
theorem dX0_excess_31 : decode cX0_excess 31 = .ok (.ireturn, 1) := by decide +kernel
theorem dX0_greatestSaltCell_0 : decode cX0_greatestSaltCell 0 = .ok (.bipush 39, 2) := by decide +kernel
theorem dX0_greatestSaltCell_2 : decode cX0_greatestSaltCell 2 = .ok (.istore_n 1, 1) := by decide +kernel
theorem dX0_greatestSaltCell_3 : decode cX0_greatestSaltCell 3 = .ok (.iload_n 1, 1) := by decide +kernel
theorem dX0_greatestSaltCell_4 : decode cX0_greatestSaltCell 4 = .ok (.ifCond .lt 20, 3) := by decide +kernel
theorem dX0_greatestSaltCell_7 : decode cX0_greatestSaltCell 7 = .ok (.aload_n 0, 1) := by decide +kernel
theorem dX0_greatestSaltCell_8 : decode cX0_greatestSaltCell 8 = .ok (.getfield 18, 3) := by decide +kernel
theorem dX0_greatestSaltCell_11 : decode cX0_greatestSaltCell 11 = .ok (.iload_n 1, 1) := by decide +kernel
theorem dX0_greatestSaltCell_12 : decode cX0_greatestSaltCell 12 = .ok (.iaload, 1) := by decide +kernel
theorem dX0_greatestSaltCell_13 : decode cX0_greatestSaltCell 13 = .ok (.ifCond .le 5, 3) := by decide +kernel
theorem dX0_greatestSaltCell_16 : decode cX0_greatestSaltCell 16 = .ok (.iload_n 1, 1) := by decide +kernel
theorem dX0_greatestSaltCell_17 : decode cX0_greatestSaltCell 17 = .ok (.ireturn, 1) := by decide +kernel
theorem dX0_greatestSaltCell_18 : decode cX0_greatestSaltCell 18 = .ok (.iinc 1 (-1), 3) := by decide +kernel
theorem dX0_greatestSaltCell_21 : decode cX0_greatestSaltCell 21 = .ok (.goto (-18), 3) := by decide +kernel
theorem dX0_greatestSaltCell_24 : decode cX0_greatestSaltCell 24 = .ok (.bipush (-5), 2) := by decide +kernel
theorem dX0_greatestSaltCell_26 : decode cX0_greatestSaltCell 26 = .ok (.ireturn, 1) := by decide +kernel
theorem dX0_saltCells_0 : decode cX0_saltCells 0 = .ok (.iconst 0, 1) := by decide +kernel
theorem dX0_saltCells_1 : decode cX0_saltCells 1 = .ok (.istore_n 1, 1) := by decide +kernel
theorem dX0_saltCells_2 : decode cX0_saltCells 2 = .ok (.iconst 0, 1) := by decide +kernel
theorem dX0_saltCells_3 : decode cX0_saltCells 3 = .ok (.istore_n 2, 1) := by decide +kernel
theorem dX0_saltCells_4 : decode cX0_saltCells 4 = .ok (.iload_n 2, 1) := by decide +kernel
theorem dX0_saltCells_5 : decode cX0_saltCells 5 = .ok (.bipush 40, 2) := by decide +kernel
theorem dX0_saltCells_7 : decode cX0_saltCells 7 = .ok (.if_icmp .ge 21, 3) := by decide +kernel
theorem dX0_saltCells_10 : decode cX0_saltCells 10 = .ok (.aload_n 0, 1) := by decide +kernel
theorem dX0_saltCells_11 : decode cX0_saltCells 11 = .ok (.getfield 18, 3) := by decide +kernel
theorem dX0_saltCells_14 : decode cX0_saltCells 14 = .ok (.iload_n 2, 1) := by decide +kernel
theorem dX0_saltCells_15 : decode cX0_saltCells 15 = .ok (.iaload, 1) := by decide +kernel
theorem dX0_saltCells_16 : decode cX0_saltCells 16 = .ok (.ifCond .le 6, 3) := by decide +kernel
theorem dX0_saltCells_19 : decode cX0_saltCells 19 = .ok (.iinc 1 1, 3) := by decide +kernel
theorem dX0_saltCells_22 : decode cX0_saltCells 22 = .ok (.iinc 2 1, 3) := by decide +kernel
theorem dX0_saltCells_25 : decode cX0_saltCells 25 = .ok (.goto (-21), 3) := by decide +kernel
theorem dX0_saltCells_28 : decode cX0_saltCells 28 = .ok (.iload_n 1, 1) := by decide +kernel
theorem dX0_saltCells_29 : decode cX0_saltCells 29 = .ok (.ireturn, 1) := by decide +kernel
theorem dX0_sumOfHeights_0 : decode cX0_sumOfHeights 0 = .ok (.iconst 0, 1) := by decide +kernel
theorem dX0_sumOfHeights_1 : decode cX0_sumOfHeights 1 = .ok (.istore_n 1, 1) := by decide +kernel
theorem dX0_sumOfHeights_2 : decode cX0_sumOfHeights 2 = .ok (.iconst 0, 1) := by decide +kernel
theorem dX0_sumOfHeights_3 : decode cX0_sumOfHeights 3 = .ok (.istore_n 2, 1) := by decide +kernel
theorem dX0_sumOfHeights_4 : decode cX0_sumOfHeights 4 = .ok (.iload_n 2, 1) := by decide +kernel
theorem dX0_sumOfHeights_5 : decode cX0_sumOfHeights 5 = .ok (.bipush 40, 2) := by decide +kernel
theorem dX0_sumOfHeights_7 : decode cX0_sumOfHeights 7 = .ok (.if_icmp .ge 18, 3) := by decide +kernel
theorem dX0_sumOfHeights_10 : decode cX0_sumOfHeights 10 = .ok (.iload_n 1, 1) := by decide +kernel
theorem dX0_sumOfHeights_11 : decode cX0_sumOfHeights 11 = .ok (.aload_n 0, 1) := by decide +kernel
theorem dX0_sumOfHeights_12 : decode cX0_sumOfHeights 12 = .ok (.getfield 18, 3) := by decide +kernel
theorem dX0_sumOfHeights_15 : decode cX0_sumOfHeights 15 = .ok (.iload_n 2, 1) := by decide +kernel
theorem dX0_sumOfHeights_16 : decode cX0_sumOfHeights 16 = .ok (.iaload, 1) := by decide +kernel
theorem dX0_sumOfHeights_17 : decode cX0_sumOfHeights 17 = .ok (.iadd, 1) := by decide +kernel
theorem dX0_sumOfHeights_18 : decode cX0_sumOfHeights 18 = .ok (.istore_n 1, 1) := by decide +kernel
theorem dX0_sumOfHeights_19 : decode cX0_sumOfHeights 19 = .ok (.iinc 2 1, 3) := by decide +kernel
theorem dX0_sumOfHeights_22 : decode cX0_sumOfHeights 22 = .ok (.goto (-18), 3) := by decide +kernel
theorem dX0_sumOfHeights_25 : decode cX0_sumOfHeights 25 = .ok (.iload_n 1, 1) := by decide +kernel
theorem dX0_sumOfHeights_26 : decode cX0_sumOfHeights 26 = .ok (.ireturn, 1) := by decide +kernel
theorem dX1_init_0 : decode cX1_init 0 = .ok (.aload_n 0, 1) := by decide +kernel
theorem dX1_init_1 : decode cX1_init 1 = .ok (.invokespecial 3, 3) := by decide +kernel
theorem dX1_init_4 : decode cX1_init 4 = .ok (.aload_n 0, 1) := by decide +kernel
theorem dX1_init_5 : decode cX1_init 5 = .ok (.iconst 4, 1) := by decide +kernel
theorem dX1_init_6 : decode cX1_init 6 = .ok (.anewarray 9, 3) := by decide +kernel
theorem dX1_init_9 : decode cX1_init 9 = .ok (.putfield 11, 3) := by decide +kernel
theorem dX1_init_12 : decode cX1_init 12 = .ok (.iconst 0, 1) := by decide +kernel
theorem dX1_init_13 : decode cX1_init 13 = .ok (.istore_n 1, 1) := by decide +kernel
theorem dX1_init_14 : decode cX1_init 14 = .ok (.iload_n 1, 1) := by decide +kernel
theorem dX1_init_15 : decode cX1_init 15 = .ok (.iconst 4, 1) := by decide +kernel
theorem dX1_init_16 : decode cX1_init 16 = .ok (.if_icmp .ge 22, 3) := by decide +kernel
theorem dX1_init_19 : decode cX1_init 19 = .ok (.aload_n 0, 1) := by decide +kernel
theorem dX1_init_20 : decode cX1_init 20 = .ok (.getfield 11, 3) := by decide +kernel
theorem dX1_init_23 : decode cX1_init 23 = .ok (.iload_n 1, 1) := by decide +kernel
theorem dX1_init_24 : decode cX1_init 24 = .ok (.new 9, 3) := by decide +kernel
theorem dX1_init_27 : decode cX1_init 27 = .ok (.dup, 1) := by decide +kernel
theorem dX1_init_28 : decode cX1_init 28 = .ok (.invokespecial 17, 3) := by decide +kernel
theorem dX1_init_31 : decode cX1_init 31 = .ok (.aastore, 1) := by decide +kernel
theorem dX1_init_32 : decode cX1_init 32 = .ok (.iinc 1 1, 3) := by decide +kernel
theorem dX1_init_35 : decode cX1_init 35 = .ok (.goto (-21), 3) := by decide +kernel
theorem dX1_init_38 : decode cX1_init 38 = .ok (.return_, 1) := by decide +kernel
theorem dX1_add_0 : decode cX1_add 0 = .ok (.aload_n 0, 1) := by decide +kernel
theorem dX1_add_1 : decode cX1_add 1 = .ok (.getfield 18, 3) := by decide +kernel
theorem dX1_add_4 : decode cX1_add 4 = .ok (.iconst 4, 1) := by decide +kernel
theorem dX1_add_5 : decode cX1_add 5 = .ok (.if_icmp .lt 7, 3) := by decide +kernel
theorem dX1_add_8 : decode cX1_add 8 = .ok (.aload_n 0, 1) := by decide +kernel
theorem dX1_add_9 : decode cX1_add 9 = .ok (.invokevirtual 22, 3) := by decide +kernel
theorem dX1_add_12 : decode cX1_add 12 = .ok (.aload_n 0, 1) := by decide +kernel
theorem dX1_add_13 : decode cX1_add 13 = .ok (.getfield 18, 3) := by decide +kernel
theorem dX1_add_16 : decode cX1_add 16 = .ok (.ifCond .lt 11, 3) := by decide +kernel
theorem dX1_add_19 : decode cX1_add 19 = .ok (.aload_n 0, 1) := by decide +kernel
theorem dX1_add_20 : decode cX1_add 20 = .ok (.getfield 18, 3) := by decide +kernel
theorem dX1_add_23 : decode cX1_add 23 = .ok (.iconst 4, 1) := by decide +kernel
theorem dX1_add_24 : decode cX1_add 24 = .ok (.if_icmp .lt 4, 3) := by decide +kernel
theorem dX1_add_27 : decode cX1_add 27 = .ok (.return_, 1) := by decide +kernel
theorem dX1_add_28 : decode cX1_add 28 = .ok (.aload_n 0, 1) := by decide +kernel
theorem dX1_add_29 : decode cX1_add 29 = .ok (.getfield 11, 3) := by decide +kernel
theorem dX1_add_32 : decode cX1_add 32 = .ok (.aload_n 0, 1) := by decide +kernel
theorem dX1_add_33 : decode cX1_add 33 = .ok (.getfield 18, 3) := by decide +kernel
theorem dX1_add_36 : decode cX1_add 36 = .ok (.aaload, 1) := by decide +kernel
theorem dX1_add_37 : decode cX1_add 37 = .ok (.astore_n 2, 1) := by decide +kernel
theorem dX1_add_38 : decode cX1_add 38 = .ok (.aload_n 2, 1) := by decide +kernel
theorem dX1_add_39 : decode cX1_add 39 = .ok (.ifnull 18, 3) := by decide +kernel
theorem dX1_add_42 : decode cX1_add 42 = .ok (.aload_n 2, 1) := by decide +kernel
theorem dX1_add_43 : decode cX1_add 43 = .ok (.aload_n 1, 1) := by decide +kernel
theorem dX1_add_44 : decode cX1_add 44 = .ok (.invokevirtual 25, 3) := by decide +kernel
theorem dX1_add_47 : decode cX1_add 47 = .ok (.aload_n 0, 1) := by decide +kernel
theorem dX1_add_48 : decode cX1_add 48 = .ok (.dup, 1) := by decide +kernel
theorem dX1_add_49 : decode cX1_add 49 = .ok (.getfield 18, 3) := by decide +kernel
theorem dX1_add_52 : decode cX1_add 52 = .ok (.iconst 1, 1) := by decide +kernel
theorem dX1_add_53 : decode cX1_add 53 = .ok (.iadd, 1) := by decide +kernel
theorem dX1_add_54 : decode cX1_add 54 = .ok (.putfield 18, 3) := by decide +kernel
theorem dX1_add_57 : decode cX1_add 57 = .ok (.return_, 1) := by decide +kernel
theorem dX1_dropOldest_0 : decode cX1_dropOldest 0 = .ok (.aload_n 0, 1) := by decide +kernel
theorem dX1_dropOldest_1 : decode cX1_dropOldest 1 = .ok (.getfield 11, 3) := by decide +kernel
theorem dX1_dropOldest_4 : decode cX1_dropOldest 4 = .ok (.iconst 0, 1) := by decide +kernel
theorem dX1_dropOldest_5 : decode cX1_dropOldest 5 = .ok (.aaload, 1) := by decide +kernel
theorem dX1_dropOldest_6 : decode cX1_dropOldest 6 = .ok (.astore_n 1, 1) := by decide +kernel
theorem dX1_dropOldest_7 : decode cX1_dropOldest 7 = .ok (.iconst 1, 1) := by decide +kernel
theorem dX1_dropOldest_8 : decode cX1_dropOldest 8 = .ok (.istore_n 2, 1) := by decide +kernel
theorem dX1_dropOldest_9 : decode cX1_dropOldest 9 = .ok (.iload_n 2, 1) := by decide +kernel
theorem dX1_dropOldest_10 : decode cX1_dropOldest 10 = .ok (.iconst 4, 1) := by decide +kernel
theorem dX1_dropOldest_11 : decode cX1_dropOldest 11 = .ok (.if_icmp .ge 23, 3) := by decide +kernel
theorem dX1_dropOldest_14 : decode cX1_dropOldest 14 = .ok (.aload_n 0, 1) := by decide +kernel
theorem dX1_dropOldest_15 : decode cX1_dropOldest 15 = .ok (.getfield 11, 3) := by decide +kernel
theorem dX1_dropOldest_18 : decode cX1_dropOldest 18 = .ok (.iload_n 2, 1) := by decide +kernel
theorem dX1_dropOldest_19 : decode cX1_dropOldest 19 = .ok (.iconst 1, 1) := by decide +kernel
theorem dX1_dropOldest_20 : decode cX1_dropOldest 20 = .ok (.isub, 1) := by decide +kernel
theorem dX1_dropOldest_21 : decode cX1_dropOldest 21 = .ok (.aload_n 0, 1) := by decide +kernel
theorem dX1_dropOldest_22 : decode cX1_dropOldest 22 = .ok (.getfield 11, 3) := by decide +kernel
theorem dX1_dropOldest_25 : decode cX1_dropOldest 25 = .ok (.iload_n 2, 1) := by decide +kernel
theorem dX1_dropOldest_26 : decode cX1_dropOldest 26 = .ok (.aaload, 1) := by decide +kernel
theorem dX1_dropOldest_27 : decode cX1_dropOldest 27 = .ok (.aastore, 1) := by decide +kernel
theorem dX1_dropOldest_28 : decode cX1_dropOldest 28 = .ok (.iinc 2 1, 3) := by decide +kernel
theorem dX1_dropOldest_31 : decode cX1_dropOldest 31 = .ok (.goto (-22), 3) := by decide +kernel
theorem dX1_dropOldest_34 : decode cX1_dropOldest 34 = .ok (.aload_n 0, 1) := by decide +kernel
theorem dX1_dropOldest_35 : decode cX1_dropOldest 35 = .ok (.getfield 11, 3) := by decide +kernel
theorem dX1_dropOldest_38 : decode cX1_dropOldest 38 = .ok (.iconst 3, 1) := by decide +kernel
theorem dX1_dropOldest_39 : decode cX1_dropOldest 39 = .ok (.aload_n 1, 1) := by decide +kernel
theorem dX1_dropOldest_40 : decode cX1_dropOldest 40 = .ok (.aastore, 1) := by decide +kernel
theorem dX1_dropOldest_41 : decode cX1_dropOldest 41 = .ok (.aload_n 0, 1) := by decide +kernel
theorem dX1_dropOldest_42 : decode cX1_dropOldest 42 = .ok (.dup, 1) := by decide +kernel
theorem dX1_dropOldest_43 : decode cX1_dropOldest 43 = .ok (.getfield 18, 3) := by decide +kernel
theorem dX1_dropOldest_46 : decode cX1_dropOldest 46 = .ok (.iconst 1, 1) := by decide +kernel
theorem dX1_dropOldest_47 : decode cX1_dropOldest 47 = .ok (.isub, 1) := by decide +kernel
theorem dX1_dropOldest_48 : decode cX1_dropOldest 48 = .ok (.putfield 18, 3) := by decide +kernel
theorem dX1_dropOldest_51 : decode cX1_dropOldest 51 = .ok (.return_, 1) := by decide +kernel
theorem dX1_takeLatest_0 : decode cX1_takeLatest 0 = .ok (.aload_n 0, 1) := by decide +kernel
theorem dX1_takeLatest_1 : decode cX1_takeLatest 1 = .ok (.getfield 18, 3) := by decide +kernel
theorem dX1_takeLatest_4 : decode cX1_takeLatest 4 = .ok (.iconst 1, 1) := by decide +kernel
theorem dX1_takeLatest_5 : decode cX1_takeLatest 5 = .ok (.isub, 1) := by decide +kernel
theorem dX1_takeLatest_6 : decode cX1_takeLatest 6 = .ok (.istore_n 2, 1) := by decide +kernel
theorem dX1_takeLatest_7 : decode cX1_takeLatest 7 = .ok (.iload_n 2, 1) := by decide +kernel
theorem dX1_takeLatest_8 : decode cX1_takeLatest 8 = .ok (.ifCond .lt 8, 3) := by decide +kernel
theorem dX1_takeLatest_11 : decode cX1_takeLatest 11 = .ok (.iload_n 2, 1) := by decide +kernel
theorem dX1_takeLatest_12 : decode cX1_takeLatest 12 = .ok (.iconst 4, 1) := by decide +kernel
theorem dX1_takeLatest_13 : decode cX1_takeLatest 13 = .ok (.if_icmp .lt 5, 3) := by decide +kernel
theorem dX1_takeLatest_16 : decode cX1_takeLatest 16 = .ok (.iconst 0, 1) := by decide +kernel
theorem dX1_takeLatest_17 : decode cX1_takeLatest 17 = .ok (.ireturn, 1) := by decide +kernel
theorem dX1_takeLatest_18 : decode cX1_takeLatest 18 = .ok (.aload_n 0, 1) := by decide +kernel
theorem dX1_takeLatest_19 : decode cX1_takeLatest 19 = .ok (.getfield 11, 3) := by decide +kernel
theorem dX1_takeLatest_22 : decode cX1_takeLatest 22 = .ok (.iload_n 2, 1) := by decide +kernel
theorem dX1_takeLatest_23 : decode cX1_takeLatest 23 = .ok (.aaload, 1) := by decide +kernel
theorem dX1_takeLatest_24 : decode cX1_takeLatest 24 = .ok (.astore_n 3, 1) := by decide +kernel
theorem dX1_takeLatest_25 : decode cX1_takeLatest 25 = .ok (.aload_n 3, 1) := by decide +kernel
theorem dX1_takeLatest_26 : decode cX1_takeLatest 26 = .ok (.ifnonnull 5, 3) := by decide +kernel
theorem dX1_takeLatest_29 : decode cX1_takeLatest 29 = .ok (.iconst 0, 1) := by decide +kernel
theorem dX1_takeLatest_30 : decode cX1_takeLatest 30 = .ok (.ireturn, 1) := by decide +kernel
theorem dX1_takeLatest_31 : decode cX1_takeLatest 31 = .ok (.aload_n 1, 1) := by decide +kernel
theorem dX1_takeLatest_32 : decode cX1_takeLatest 32 = .ok (.aload_n 3, 1) := by decide +kernel
theorem dX1_takeLatest_33 : decode cX1_takeLatest 33 = .ok (.invokevirtual 25, 3) := by decide +kernel
theorem dX1_takeLatest_36 : decode cX1_takeLatest 36 = .ok (.aload_n 0, 1) := by decide +kernel
theorem dX1_takeLatest_37 : decode cX1_takeLatest 37 = .ok (.iload_n 2, 1) := by decide +kernel
theorem dX1_takeLatest_38 : decode cX1_takeLatest 38 = .ok (.putfield 18, 3) := by decide +kernel
theorem dX1_takeLatest_41 : decode cX1_takeLatest 41 = .ok (.iconst 1, 1) := by decide +kernel
theorem dX1_takeLatest_42 : decode cX1_takeLatest 42 = .ok (.ireturn, 1) := by decide +kernel
theorem dX2_init_0 : decode cX2_init 0 = .ok (.aload_n 0, 1) := by decide +kernel
theorem dX2_init_1 : decode cX2_init 1 = .ok (.invokespecial 3, 3) := by decide +kernel
theorem dX2_init_4 : decode cX2_init 4 = .ok (.aload_n 0, 1) := by decide +kernel
theorem dX2_init_5 : decode cX2_init 5 = .ok (.bipush 60, 2) := by decide +kernel
theorem dX2_init_7 : decode cX2_init 7 = .ok (.newarray .char, 2) := by decide +kernel
theorem dX2_init_9 : decode cX2_init 9 = .ok (.putfield 9, 3) := by decide +kernel
theorem dX2_init_12 : decode cX2_init 12 = .ok (.aload_n 0, 1) := by decide +kernel
theorem dX2_init_13 : decode cX2_init 13 = .ok (.bipush 20, 2) := by decide +kernel
theorem dX2_init_15 : decode cX2_init 15 = .ok (.newarray .int, 2) := by decide +kernel
theorem dX2_init_17 : decode cX2_init 17 = .ok (.putfield 15, 3) := by decide +kernel
theorem dX2_init_20 : decode cX2_init 20 = .ok (.aload_n 0, 1) := by decide +kernel
theorem dX2_init_21 : decode cX2_init 21 = .ok (.bipush 20, 2) := by decide +kernel
theorem dX2_init_23 : decode cX2_init 23 = .ok (.newarray .int, 2) := by decide +kernel
theorem dX2_init_25 : decode cX2_init 25 = .ok (.putfield 19, 3) := by decide +kernel
theorem dX2_init_28 : decode cX2_init 28 = .ok (.aload_n 0, 1) := by decide +kernel
theorem dX2_init_29 : decode cX2_init 29 = .ok (.bipush 20, 2) := by decide +kernel
theorem dX2_init_31 : decode cX2_init 31 = .ok (.newarray .int, 2) := by decide +kernel
theorem dX2_init_33 : decode cX2_init 33 = .ok (.putfield 22, 3) := by decide +kernel
theorem dX2_init_36 : decode cX2_init 36 = .ok (.return_, 1) := by decide +kernel
theorem dX3_init_0 : decode cX3_init 0 = .ok (.aload_n 0, 1) := by decide +kernel
theorem dX3_init_1 : decode cX3_init 1 = .ok (.invokespecial 3, 3) := by decide +kernel
theorem dX3_init_4 : decode cX3_init 4 = .ok (.aload_n 0, 1) := by decide +kernel
theorem dX3_init_5 : decode cX3_init 5 = .ok (.new 9, 3) := by decide +kernel
theorem dX3_init_8 : decode cX3_init 8 = .ok (.dup, 1) := by decide +kernel
theorem dX3_init_9 : decode cX3_init 9 = .ok (.invokespecial 11, 3) := by decide +kernel
theorem dX3_init_12 : decode cX3_init 12 = .ok (.putfield 12, 3) := by decide +kernel
theorem dX3_init_15 : decode cX3_init 15 = .ok (.aload_n 0, 1) := by decide +kernel
theorem dX3_init_16 : decode cX3_init 16 = .ok (.new 18, 3) := by decide +kernel
theorem dX3_init_19 : decode cX3_init 19 = .ok (.dup, 1) := by decide +kernel
theorem dX3_init_20 : decode cX3_init 20 = .ok (.invokespecial 20, 3) := by decide +kernel
theorem dX3_init_23 : decode cX3_init 23 = .ok (.putfield 21, 3) := by decide +kernel
theorem dX3_init_26 : decode cX3_init 26 = .ok (.aload_n 0, 1) := by decide +kernel
theorem dX3_init_27 : decode cX3_init 27 = .ok (.iconst 3, 1) := by decide +kernel
theorem dX3_init_28 : decode cX3_init 28 = .ok (.newarray .int, 2) := by decide +kernel
theorem dX3_init_30 : decode cX3_init 30 = .ok (.dup, 1) := by decide +kernel
theorem dX3_init_31 : decode cX3_init 31 = .ok (.iconst 0, 1) := by decide +kernel
theorem dX3_init_32 : decode cX3_init 32 = .ok (.bipush 20, 2) := by decide +kernel
theorem dX3_init_34 : decode cX3_init 34 = .ok (.iastore, 1) := by decide +kernel
theorem dX3_init_35 : decode cX3_init 35 = .ok (.dup, 1) := by decide +kernel
theorem dX3_init_36 : decode cX3_init 36 = .ok (.iconst 1, 1) := by decide +kernel
theorem dX3_init_37 : decode cX3_init 37 = .ok (.iconst 1, 1) := by decide +kernel
theorem dX3_init_38 : decode cX3_init 38 = .ok (.iastore, 1) := by decide +kernel
theorem dX3_init_39 : decode cX3_init 39 = .ok (.dup, 1) := by decide +kernel
theorem dX3_init_40 : decode cX3_init 40 = .ok (.iconst 2, 1) := by decide +kernel
theorem dX3_init_41 : decode cX3_init 41 = .ok (.iconst 5, 1) := by decide +kernel
theorem dX3_init_42 : decode cX3_init 42 = .ok (.iastore, 1) := by decide +kernel
theorem dX3_init_43 : decode cX3_init 43 = .ok (.putfield 25, 3) := by decide +kernel
theorem dX3_init_46 : decode cX3_init 46 = .ok (.aload_n 0, 1) := by decide +kernel
theorem dX3_init_47 : decode cX3_init 47 = .ok (.bipush 10, 2) := by decide +kernel
theorem dX3_init_49 : decode cX3_init 49 = .ok (.putfield 29, 3) := by decide +kernel
theorem dX3_init_52 : decode cX3_init 52 = .ok (.aload_n 0, 1) := by decide +kernel
theorem dX3_init_53 : decode cX3_init 53 = .ok (.bipush (-5), 2) := by decide +kernel
theorem dX3_init_55 : decode cX3_init 55 = .ok (.putfield 33, 3) := by decide +kernel
theorem dX3_init_58 : decode cX3_init 58 = .ok (.return_, 1) := by decide +kernel
theorem dX3_copyFrom_0 : decode cX3_copyFrom 0 = .ok (.aload_n 0, 1) := by decide +kernel
theorem dX3_copyFrom_1 : decode cX3_copyFrom 1 = .ok (.getfield 12, 3) := by decide +kernel
theorem dX3_copyFrom_4 : decode cX3_copyFrom 4 = .ok (.aload_n 1, 1) := by decide +kernel
theorem dX3_copyFrom_5 : decode cX3_copyFrom 5 = .ok (.getfield 12, 3) := by decide +kernel
theorem dX3_copyFrom_8 : decode cX3_copyFrom 8 = .ok (.invokevirtual 36, 3) := by decide +kernel
theorem dX3_copyFrom_11 : decode cX3_copyFrom 11 = .ok (.aload_n 0, 1) := by decide +kernel
theorem dX3_copyFrom_12 : decode cX3_copyFrom 12 = .ok (.getfield 21, 3) := by decide +kernel
theorem dX3_copyFrom_15 : decode cX3_copyFrom 15 = .ok (.aload_n 1, 1) := by decide +kernel
theorem dX3_copyFrom_16 : decode cX3_copyFrom 16 = .ok (.getfield 21, 3) := by decide +kernel
theorem dX3_copyFrom_19 : decode cX3_copyFrom 19 = .ok (.invokevirtual 40, 3) := by decide +kernel
theorem dX3_copyFrom_22 : decode cX3_copyFrom 22 = .ok (.aload_n 1, 1) := by decide +kernel
theorem dX3_copyFrom_23 : decode cX3_copyFrom 23 = .ok (.getfield 25, 3) := by decide +kernel
theorem dX3_copyFrom_26 : decode cX3_copyFrom 26 = .ok (.iconst 0, 1) := by decide +kernel
theorem dX3_copyFrom_27 : decode cX3_copyFrom 27 = .ok (.aload_n 0, 1) := by decide +kernel
theorem dX3_copyFrom_28 : decode cX3_copyFrom 28 = .ok (.getfield 25, 3) := by decide +kernel
theorem dX3_copyFrom_31 : decode cX3_copyFrom 31 = .ok (.iconst 0, 1) := by decide +kernel
theorem dX3_copyFrom_32 : decode cX3_copyFrom 32 = .ok (.iconst 3, 1) := by decide +kernel
theorem dX3_copyFrom_33 : decode cX3_copyFrom 33 = .ok (.invokestatic 43, 3) := by decide +kernel
theorem dX3_copyFrom_36 : decode cX3_copyFrom 36 = .ok (.aload_n 0, 1) := by decide +kernel
theorem dX3_copyFrom_37 : decode cX3_copyFrom 37 = .ok (.aload_n 1, 1) := by decide +kernel
theorem dX3_copyFrom_38 : decode cX3_copyFrom 38 = .ok (.getfield 29, 3) := by decide +kernel
theorem dX3_copyFrom_41 : decode cX3_copyFrom 41 = .ok (.putfield 29, 3) := by decide +kernel
theorem dX3_copyFrom_44 : decode cX3_copyFrom 44 = .ok (.aload_n 0, 1) := by decide +kernel
theorem dX3_copyFrom_45 : decode cX3_copyFrom 45 = .ok (.aload_n 1, 1) := by decide +kernel
theorem dX3_copyFrom_46 : decode cX3_copyFrom 46 = .ok (.getfield 49, 3) := by decide +kernel
theorem dX3_copyFrom_49 : decode cX3_copyFrom 49 = .ok (.putfield 49, 3) := by decide +kernel
theorem dX3_copyFrom_52 : decode cX3_copyFrom 52 = .ok (.aload_n 0, 1) := by decide +kernel
theorem dX3_copyFrom_53 : decode cX3_copyFrom 53 = .ok (.aload_n 1, 1) := by decide +kernel
theorem dX3_copyFrom_54 : decode cX3_copyFrom 54 = .ok (.getfield 33, 3) := by decide +kernel
theorem dX3_copyFrom_57 : decode cX3_copyFrom 57 = .ok (.putfield 33, 3) := by decide +kernel
theorem dX3_copyFrom_60 : decode cX3_copyFrom 60 = .ok (.return_, 1) := by decide +kernel
theorem dX3_changeFlow_0 : decode cX3_changeFlow 0 = .ok (.iload_n 1, 1) := by decide +kernel
theorem dX3_changeFlow_1 : decode cX3_changeFlow 1 = .ok (.ifCond .lt 9, 3) := by decide +kernel
theorem dX3_changeFlow_4 : decode cX3_changeFlow 4 = .ok (.iload_n 1, 1) := by decide +kernel
theorem dX3_changeFlow_5 : decode cX3_changeFlow 5 = .ok (.bipush 99, 2) := by decide +kernel
theorem dX3_changeFlow_7 : decode cX3_changeFlow 7 = .ok (.if_icmp .le 6, 3) := by decide +kernel
theorem dX3_changeFlow_10 : decode cX3_changeFlow 10 = .ok (.bipush (-2), 2) := by decide +kernel
theorem dX3_changeFlow_12 : decode cX3_changeFlow 12 = .ok (.ireturn, 1) := by decide +kernel
theorem dX3_changeFlow_13 : decode cX3_changeFlow 13 = .ok (.aload_n 0, 1) := by decide +kernel
theorem dX3_changeFlow_14 : decode cX3_changeFlow 14 = .ok (.getfield 29, 3) := by decide +kernel
theorem dX3_changeFlow_17 : decode cX3_changeFlow 17 = .ok (.istore_n 2, 1) := by decide +kernel
theorem dX3_changeFlow_18 : decode cX3_changeFlow 18 = .ok (.aload_n 0, 1) := by decide +kernel
theorem dX3_changeFlow_19 : decode cX3_changeFlow 19 = .ok (.iload_n 1, 1) := by decide +kernel
theorem dX3_changeFlow_20 : decode cX3_changeFlow 20 = .ok (.putfield 29, 3) := by decide +kernel
theorem dX3_changeFlow_23 : decode cX3_changeFlow 23 = .ok (.iload_n 2, 1) := by decide +kernel
theorem dX3_changeFlow_24 : decode cX3_changeFlow 24 = .ok (.iload_n 1, 1) := by decide +kernel
theorem dX3_changeFlow_25 : decode cX3_changeFlow 25 = .ok (.if_icmp .ne 8, 3) := by decide +kernel
theorem dX3_changeFlow_28 : decode cX3_changeFlow 28 = .ok (.bipush (-5), 2) := by decide +kernel
theorem dX3_changeFlow_30 : decode cX3_changeFlow 30 = .ok (.goto 4, 3) := by decide +kernel
theorem dX3_changeFlow_33 : decode cX3_changeFlow 33 = .ok (.iload_n 2, 1) := by decide +kernel
theorem dX3_changeFlow_34 : decode cX3_changeFlow 34 = .ok (.ireturn, 1) := by decide +kernel
theorem dX3_changeSetting_0 : decode cX3_changeSetting 0 = .ok (.iload_n 1, 1) := by decide +kernel
theorem dX3_changeSetting_1 : decode cX3_changeSetting 1 = .ok (.ifCond .lt 8, 3) := by decide +kernel
theorem dX3_changeSetting_4 : decode cX3_changeSetting 4 = .ok (.iload_n 1, 1) := by decide +kernel
theorem dX3_changeSetting_5 : decode cX3_changeSetting 5 = .ok (.iconst 3, 1) := by decide +kernel
theorem dX3_changeSetting_6 : decode cX3_changeSetting 6 = .ok (.if_icmp .lt 5, 3) := by decide +kernel
theorem dX3_changeSetting_9 : decode cX3_changeSetting 9 = .ok (.iconst (-1), 1) := by decide +kernel
theorem dX3_changeSetting_10 : decode cX3_changeSetting 10 = .ok (.ireturn, 1) := by decide +kernel
theorem dX3_changeSetting_11 : decode cX3_changeSetting 11 = .ok (.iload_n 2, 1) := by decide +kernel
theorem dX3_changeSetting_12 : decode cX3_changeSetting 12 = .ok (.getstatic 52, 3) := by decide +kernel
theorem dX3_changeSetting_15 : decode cX3_changeSetting 15 = .ok (.iload_n 1, 1) := by decide +kernel
theorem dX3_changeSetting_16 : decode cX3_changeSetting 16 = .ok (.iaload, 1) := by decide +kernel
theorem dX3_changeSetting_17 : decode cX3_changeSetting 17 = .ok (.if_icmp .lt 12, 3) := by decide +kernel
theorem dX3_changeSetting_20 : decode cX3_changeSetting 20 = .ok (.iload_n 2, 1) := by decide +kernel
theorem dX3_changeSetting_21 : decode cX3_changeSetting 21 = .ok (.getstatic 55, 3) := by decide +kernel
theorem dX3_changeSetting_24 : decode cX3_changeSetting 24 = .ok (.iload_n 1, 1) := by decide +kernel
theorem dX3_changeSetting_25 : decode cX3_changeSetting 25 = .ok (.iaload, 1) := by decide +kernel
theorem dX3_changeSetting_26 : decode cX3_changeSetting 26 = .ok (.if_icmp .le 6, 3) := by decide +kernel
theorem dX3_changeSetting_29 : decode cX3_changeSetting 29 = .ok (.bipush (-2), 2) := by decide +kernel
theorem dX3_changeSetting_31 : decode cX3_changeSetting 31 = .ok (.ireturn, 1) := by decide +kernel
theorem dX3_changeSetting_32 : decode cX3_changeSetting 32 = .ok (.aload_n 0, 1) := by decide +kernel
theorem dX3_changeSetting_33 : decode cX3_changeSetting 33 = .ok (.getfield 25, 3) := by decide +kernel
theorem dX3_changeSetting_36 : decode cX3_changeSetting 36 = .ok (.iload_n 1, 1) := by decide +kernel
theorem dX3_changeSetting_37 : decode cX3_changeSetting 37 = .ok (.iaload, 1) := by decide +kernel
theorem dX3_changeSetting_38 : decode cX3_changeSetting 38 = .ok (.istore_n 3, 1) := by decide +kernel
theorem dX3_changeSetting_39 : decode cX3_changeSetting 39 = .ok (.aload_n 0, 1) := by decide +kernel
theorem dX3_changeSetting_40 : decode cX3_changeSetting 40 = .ok (.getfield 25, 3) := by decide +kernel
theorem dX3_changeSetting_43 : decode cX3_changeSetting 43 = .ok (.iload_n 1, 1) := by decide +kernel
theorem dX3_changeSetting_44 : decode cX3_changeSetting 44 = .ok (.iload_n 2, 1) := by decide +kernel
theorem dX3_changeSetting_45 : decode cX3_changeSetting 45 = .ok (.iastore, 1) := by decide +kernel
theorem dX3_changeSetting_46 : decode cX3_changeSetting 46 = .ok (.iload_n 3, 1) := by decide +kernel
theorem dX3_changeSetting_47 : decode cX3_changeSetting 47 = .ok (.iload_n 2, 1) := by decide +kernel
theorem dX3_changeSetting_48 : decode cX3_changeSetting 48 = .ok (.if_icmp .ne 8, 3) := by decide +kernel
theorem dX3_changeSetting_51 : decode cX3_changeSetting 51 = .ok (.bipush (-5), 2) := by decide +kernel
theorem dX3_changeSetting_53 : decode cX3_changeSetting 53 = .ok (.goto 4, 3) := by decide +kernel
theorem dX3_changeSetting_56 : decode cX3_changeSetting 56 = .ok (.iload_n 3, 1) := by decide +kernel
theorem dX3_changeSetting_57 : decode cX3_changeSetting 57 = .ok (.ireturn, 1) := by decide +kernel
theorem dX3_slope_0 : decode cX3_slope 0 = .ok (.aload_n 0, 1) := by decide +kernel
theorem dX3_slope_1 : decode cX3_slope 1 = .ok (.getfield 25, 3) := by decide +kernel
theorem dX3_slope_4 : decode cX3_slope 4 = .ok (.iconst 1, 1) := by decide +kernel
theorem dX3_slope_5 : decode cX3_slope 5 = .ok (.iaload, 1) := by decide +kernel
theorem dX3_slope_6 : decode cX3_slope 6 = .ok (.ireturn, 1) := by decide +kernel
theorem dX3_pushOf_0 : decode cX3_pushOf 0 = .ok (.aload_n 0, 1) := by decide +kernel
theorem dX3_pushOf_1 : decode cX3_pushOf 1 = .ok (.aload_n 0, 1) := by decide +kernel
theorem dX3_pushOf_2 : decode cX3_pushOf 2 = .ok (.getfield 29, 3) := by decide +kernel
theorem dX3_pushOf_5 : decode cX3_pushOf 5 = .ok (.iload_n 1, 1) := by decide +kernel
theorem dX3_pushOf_6 : decode cX3_pushOf 6 = .ok (.invokevirtual 58, 3) := by decide +kernel
theorem dX3_pushOf_9 : decode cX3_pushOf 9 = .ok (.ireturn, 1) := by decide +kernel
theorem dX3_pushWith_0 : decode cX3_pushWith 0 = .ok (.aload_n 0, 1) := by decide +kernel
theorem dX3_pushWith_1 : decode cX3_pushWith 1 = .ok (.getfield 25, 3) := by decide +kernel
theorem dX3_pushWith_4 : decode cX3_pushWith 4 = .ok (.iconst 0, 1) := by decide +kernel
theorem dX3_pushWith_5 : decode cX3_pushWith 5 = .ok (.iaload, 1) := by decide +kernel
theorem dX3_pushWith_6 : decode cX3_pushWith 6 = .ok (.iload_n 2, 1) := by decide +kernel
theorem dX3_pushWith_7 : decode cX3_pushWith 7 = .ok (.iadd, 1) := by decide +kernel
theorem dX3_pushWith_8 : decode cX3_pushWith 8 = .ok (.iload_n 1, 1) := by decide +kernel
theorem dX3_pushWith_9 : decode cX3_pushWith 9 = .ok (.isub, 1) := by decide +kernel
theorem dX3_pushWith_10 : decode cX3_pushWith 10 = .ok (.ireturn, 1) := by decide +kernel
theorem dX3_letTidesCome_0 : decode cX3_letTidesCome 0 = .ok (.iload_n 1, 1) := by decide +kernel
theorem dX3_letTidesCome_1 : decode cX3_letTidesCome 1 = .ok (.invokestatic 62, 3) := by decide +kernel
theorem dX3_letTidesCome_4 : decode cX3_letTidesCome 4 = .ok (.ifCond .eq 14, 3) := by decide +kernel
theorem dX3_letTidesCome_7 : decode cX3_letTidesCome 7 = .ok (.iload_n 2, 1) := by decide +kernel
theorem dX3_letTidesCome_8 : decode cX3_letTidesCome 8 = .ok (.iconst 1, 1) := by decide +kernel
theorem dX3_letTidesCome_9 : decode cX3_letTidesCome 9 = .ok (.if_icmp .lt 9, 3) := by decide +kernel
theorem dX3_letTidesCome_12 : decode cX3_letTidesCome 12 = .ok (.iload_n 2, 1) := by decide +kernel
theorem dX3_letTidesCome_13 : decode cX3_letTidesCome 13 = .ok (.bipush 99, 2) := by decide +kernel
theorem dX3_letTidesCome_15 : decode cX3_letTidesCome 15 = .ok (.if_icmp .le 6, 3) := by decide +kernel
theorem dX3_letTidesCome_18 : decode cX3_letTidesCome 18 = .ok (.bipush (-2), 2) := by decide +kernel
theorem dX3_letTidesCome_20 : decode cX3_letTidesCome 20 = .ok (.ireturn, 1) := by decide +kernel
theorem dX3_letTidesCome_21 : decode cX3_letTidesCome 21 = .ok (.aload_n 0, 1) := by decide +kernel
theorem dX3_letTidesCome_22 : decode cX3_letTidesCome 22 = .ok (.getfield 49, 3) := by decide +kernel
theorem dX3_letTidesCome_25 : decode cX3_letTidesCome 25 = .ok (.iload_n 2, 1) := by decide +kernel
theorem dX3_letTidesCome_26 : decode cX3_letTidesCome 26 = .ok (.iadd, 1) := by decide +kernel
theorem dX3_letTidesCome_27 : decode cX3_letTidesCome 27 = .ok (.ldc 66, 2) := by decide +kernel
theorem dX3_letTidesCome_29 : decode cX3_letTidesCome 29 = .ok (.if_icmp .le 6, 3) := by decide +kernel
theorem dX3_letTidesCome_32 : decode cX3_letTidesCome 32 = .ok (.bipush (-3), 2) := by decide +kernel
theorem dX3_letTidesCome_34 : decode cX3_letTidesCome 34 = .ok (.ireturn, 1) := by decide +kernel
theorem dX3_letTidesCome_35 : decode cX3_letTidesCome 35 = .ok (.iconst 0, 1) := by decide +kernel
theorem dX3_letTidesCome_36 : decode cX3_letTidesCome 36 = .ok (.istore_n 3, 1) := by decide +kernel
theorem dX3_letTidesCome_37 : decode cX3_letTidesCome 37 = .ok (.iload_n 3, 1) := by decide +kernel
theorem dX3_letTidesCome_38 : decode cX3_letTidesCome 38 = .ok (.iload_n 2, 1) := by decide +kernel
theorem dX3_letTidesCome_39 : decode cX3_letTidesCome 39 = .ok (.if_icmp .ge 14, 3) := by decide +kernel
theorem dX3_letTidesCome_42 : decode cX3_letTidesCome 42 = .ok (.aload_n 0, 1) := by decide +kernel
theorem dX3_letTidesCome_43 : decode cX3_letTidesCome 43 = .ok (.iload_n 1, 1) := by decide +kernel
theorem dX3_letTidesCome_44 : decode cX3_letTidesCome 44 = .ok (.invokevirtual 67, 3) := by decide +kernel
theorem dX3_letTidesCome_47 : decode cX3_letTidesCome 47 = .ok (.iinc 3 1, 3) := by decide +kernel
theorem dX3_letTidesCome_50 : decode cX3_letTidesCome 50 = .ok (.goto (-13), 3) := by decide +kernel
theorem dX3_letTidesCome_53 : decode cX3_letTidesCome 53 = .ok (.aload_n 0, 1) := by decide +kernel
theorem dX3_letTidesCome_54 : decode cX3_letTidesCome 54 = .ok (.getfield 12, 3) := by decide +kernel
theorem dX3_letTidesCome_57 : decode cX3_letTidesCome 57 = .ok (.invokevirtual 71, 3) := by decide +kernel
theorem dX3_letTidesCome_60 : decode cX3_letTidesCome 60 = .ok (.ireturn, 1) := by decide +kernel
theorem dX3_letOneTideCome_0 : decode cX3_letOneTideCome 0 = .ok (.aload_n 0, 1) := by decide +kernel
theorem dX3_letOneTideCome_1 : decode cX3_letOneTideCome 1 = .ok (.getfield 12, 3) := by decide +kernel
theorem dX3_letOneTideCome_4 : decode cX3_letOneTideCome 4 = .ok (.aload_n 0, 1) := by decide +kernel
theorem dX3_letOneTideCome_5 : decode cX3_letOneTideCome 5 = .ok (.iload_n 1, 1) := by decide +kernel
theorem dX3_letOneTideCome_6 : decode cX3_letOneTideCome 6 = .ok (.invokevirtual 75, 3) := by decide +kernel
theorem dX3_letOneTideCome_9 : decode cX3_letOneTideCome 9 = .ok (.aload_n 0, 1) := by decide +kernel
theorem dX3_letOneTideCome_10 : decode cX3_letOneTideCome 10 = .ok (.invokevirtual 79, 3) := by decide +kernel
theorem dX3_letOneTideCome_13 : decode cX3_letOneTideCome 13 = .ok (.aload_n 0, 1) := by decide +kernel
theorem dX3_letOneTideCome_14 : decode cX3_letOneTideCome 14 = .ok (.getfield 25, 3) := by decide +kernel
theorem dX3_letOneTideCome_17 : decode cX3_letOneTideCome 17 = .ok (.iconst 2, 1) := by decide +kernel
theorem dX3_letOneTideCome_18 : decode cX3_letOneTideCome 18 = .ok (.iaload, 1) := by decide +kernel
theorem dX3_letOneTideCome_19 : decode cX3_letOneTideCome 19 = .ok (.invokevirtual 82, 3) := by decide +kernel
theorem dX3_letOneTideCome_22 : decode cX3_letOneTideCome 22 = .ok (.aload_n 0, 1) := by decide +kernel
theorem dX3_letOneTideCome_23 : decode cX3_letOneTideCome 23 = .ok (.getfield 21, 3) := by decide +kernel
theorem dX3_letOneTideCome_26 : decode cX3_letOneTideCome 26 = .ok (.aload_n 0, 1) := by decide +kernel
theorem dX3_letOneTideCome_27 : decode cX3_letOneTideCome 27 = .ok (.getfield 12, 3) := by decide +kernel
theorem dX3_letOneTideCome_30 : decode cX3_letOneTideCome 30 = .ok (.invokevirtual 86, 3) := by decide +kernel
theorem dX3_letOneTideCome_33 : decode cX3_letOneTideCome 33 = .ok (.aload_n 0, 1) := by decide +kernel
theorem dX3_letOneTideCome_34 : decode cX3_letOneTideCome 34 = .ok (.dup, 1) := by decide +kernel
theorem dX3_letOneTideCome_35 : decode cX3_letOneTideCome 35 = .ok (.getfield 49, 3) := by decide +kernel
theorem dX3_letOneTideCome_38 : decode cX3_letOneTideCome 38 = .ok (.iconst 1, 1) := by decide +kernel
theorem dX3_letOneTideCome_39 : decode cX3_letOneTideCome 39 = .ok (.iadd, 1) := by decide +kernel
theorem dX3_letOneTideCome_40 : decode cX3_letOneTideCome 40 = .ok (.putfield 49, 3) := by decide +kernel
theorem dX3_letOneTideCome_43 : decode cX3_letOneTideCome 43 = .ok (.aload_n 0, 1) := by decide +kernel
theorem dX3_letOneTideCome_44 : decode cX3_letOneTideCome 44 = .ok (.aload_n 0, 1) := by decide +kernel
theorem dX3_letOneTideCome_45 : decode cX3_letOneTideCome 45 = .ok (.getfield 33, 3) := by decide +kernel
theorem dX3_letOneTideCome_48 : decode cX3_letOneTideCome 48 = .ok (.aload_n 0, 1) := by decide +kernel
theorem dX3_letOneTideCome_49 : decode cX3_letOneTideCome 49 = .ok (.getfield 12, 3) := by decide +kernel
theorem dX3_letOneTideCome_52 : decode cX3_letOneTideCome 52 = .ok (.invokevirtual 89, 3) := by decide +kernel
theorem dX3_letOneTideCome_55 : decode cX3_letOneTideCome 55 = .ok (.invokestatic 92, 3) := by decide +kernel
theorem dX3_letOneTideCome_58 : decode cX3_letOneTideCome 58 = .ok (.putfield 33, 3) := by decide +kernel
theorem dX3_letOneTideCome_61 : decode cX3_letOneTideCome 61 = .ok (.return_, 1) := by decide +kernel
theorem dX3_leastFlowFor_0 : decode cX3_leastFlowFor 0 = .ok (.iconst 0, 1) := by decide +kernel
theorem dX3_leastFlowFor_1 : decode cX3_leastFlowFor 1 = .ok (.istore_n 3, 1) := by decide +kernel
theorem dX3_leastFlowFor_2 : decode cX3_leastFlowFor 2 = .ok (.iload_n 3, 1) := by decide +kernel
theorem dX3_leastFlowFor_3 : decode cX3_leastFlowFor 3 = .ok (.bipush 99, 2) := by decide +kernel
theorem dX3_leastFlowFor_5 : decode cX3_leastFlowFor 5 = .ok (.if_icmp .gt 32, 3) := by decide +kernel
theorem dX3_leastFlowFor_8 : decode cX3_leastFlowFor 8 = .ok (.aload_n 0, 1) := by decide +kernel
theorem dX3_leastFlowFor_9 : decode cX3_leastFlowFor 9 = .ok (.getfield 12, 3) := by decide +kernel
theorem dX3_leastFlowFor_12 : decode cX3_leastFlowFor 12 = .ok (.iload_n 1, 1) := by decide +kernel
theorem dX3_leastFlowFor_13 : decode cX3_leastFlowFor 13 = .ok (.aload_n 0, 1) := by decide +kernel
theorem dX3_leastFlowFor_14 : decode cX3_leastFlowFor 14 = .ok (.iload_n 3, 1) := by decide +kernel
theorem dX3_leastFlowFor_15 : decode cX3_leastFlowFor 15 = .ok (.iload_n 2, 1) := by decide +kernel
theorem dX3_leastFlowFor_16 : decode cX3_leastFlowFor 16 = .ok (.invokevirtual 58, 3) := by decide +kernel
theorem dX3_leastFlowFor_19 : decode cX3_leastFlowFor 19 = .ok (.aload_n 0, 1) := by decide +kernel
theorem dX3_leastFlowFor_20 : decode cX3_leastFlowFor 20 = .ok (.invokevirtual 79, 3) := by decide +kernel
theorem dX3_leastFlowFor_23 : decode cX3_leastFlowFor 23 = .ok (.invokevirtual 97, 3) := by decide +kernel
theorem dX3_leastFlowFor_26 : decode cX3_leastFlowFor 26 = .ok (.ifCond .ne 5, 3) := by decide +kernel
theorem dX3_leastFlowFor_29 : decode cX3_leastFlowFor 29 = .ok (.iload_n 3, 1) := by decide +kernel
theorem dX3_leastFlowFor_30 : decode cX3_leastFlowFor 30 = .ok (.ireturn, 1) := by decide +kernel
theorem dX3_leastFlowFor_31 : decode cX3_leastFlowFor 31 = .ok (.iinc 3 1, 3) := by decide +kernel
theorem dX3_leastFlowFor_34 : decode cX3_leastFlowFor 34 = .ok (.goto (-32), 3) := by decide +kernel
theorem dX3_leastFlowFor_37 : decode cX3_leastFlowFor 37 = .ok (.bipush (-5), 2) := by decide +kernel
theorem dX3_leastFlowFor_39 : decode cX3_leastFlowFor 39 = .ok (.ireturn, 1) := by decide +kernel
theorem dX4_init_0 : decode cX4_init 0 = .ok (.aload_n 0, 1) := by decide +kernel
theorem dX4_init_1 : decode cX4_init 1 = .ok (.invokespecial 3, 3) := by decide +kernel
theorem dX4_init_4 : decode cX4_init 4 = .ok (.aload_n 0, 1) := by decide +kernel
theorem dX4_init_5 : decode cX4_init 5 = .ok (.bipush 6, 2) := by decide +kernel
theorem dX4_init_7 : decode cX4_init 7 = .ok (.newarray .int, 2) := by decide +kernel
theorem dX4_init_9 : decode cX4_init 9 = .ok (.putfield 9, 3) := by decide +kernel
theorem dX4_init_12 : decode cX4_init 12 = .ok (.aload_n 0, 1) := by decide +kernel
theorem dX4_init_13 : decode cX4_init 13 = .ok (.bipush 6, 2) := by decide +kernel
theorem dX4_init_15 : decode cX4_init 15 = .ok (.newarray .int, 2) := by decide +kernel
theorem dX4_init_17 : decode cX4_init 17 = .ok (.putfield 15, 3) := by decide +kernel
theorem dX4_init_20 : decode cX4_init 20 = .ok (.aload_n 0, 1) := by decide +kernel
theorem dX4_init_21 : decode cX4_init 21 = .ok (.bipush 6, 2) := by decide +kernel
theorem dX4_init_23 : decode cX4_init 23 = .ok (.newarray .int, 2) := by decide +kernel
theorem dX4_init_25 : decode cX4_init 25 = .ok (.putfield 18, 3) := by decide +kernel
theorem dX4_init_28 : decode cX4_init 28 = .ok (.aload_n 0, 1) := by decide +kernel
theorem dX4_init_29 : decode cX4_init 29 = .ok (.bipush 6, 2) := by decide +kernel
theorem dX4_init_31 : decode cX4_init 31 = .ok (.newarray .int, 2) := by decide +kernel
theorem dX4_init_33 : decode cX4_init 33 = .ok (.putfield 21, 3) := by decide +kernel
theorem dX4_init_36 : decode cX4_init 36 = .ok (.aload_n 0, 1) := by decide +kernel
theorem dX4_init_37 : decode cX4_init 37 = .ok (.bipush 6, 2) := by decide +kernel
theorem dX4_init_39 : decode cX4_init 39 = .ok (.newarray .int, 2) := by decide +kernel
theorem dX4_init_41 : decode cX4_init 41 = .ok (.putfield 24, 3) := by decide +kernel
theorem dX4_init_44 : decode cX4_init 44 = .ok (.aload_n 0, 1) := by decide +kernel
theorem dX4_init_45 : decode cX4_init 45 = .ok (.bipush 6, 2) := by decide +kernel
theorem dX4_init_47 : decode cX4_init 47 = .ok (.newarray .int, 2) := by decide +kernel
theorem dX4_init_49 : decode cX4_init 49 = .ok (.putfield 27, 3) := by decide +kernel
theorem dX4_init_52 : decode cX4_init 52 = .ok (.return_, 1) := by decide +kernel
theorem dX4_copyFrom_0 : decode cX4_copyFrom 0 = .ok (.aload_n 1, 1) := by decide +kernel
theorem dX4_copyFrom_1 : decode cX4_copyFrom 1 = .ok (.getfield 9, 3) := by decide +kernel
theorem dX4_copyFrom_4 : decode cX4_copyFrom 4 = .ok (.iconst 0, 1) := by decide +kernel
theorem dX4_copyFrom_5 : decode cX4_copyFrom 5 = .ok (.aload_n 0, 1) := by decide +kernel
theorem dX4_copyFrom_6 : decode cX4_copyFrom 6 = .ok (.getfield 9, 3) := by decide +kernel
theorem dX4_copyFrom_9 : decode cX4_copyFrom 9 = .ok (.iconst 0, 1) := by decide +kernel
theorem dX4_copyFrom_10 : decode cX4_copyFrom 10 = .ok (.bipush 6, 2) := by decide +kernel
theorem dX4_copyFrom_12 : decode cX4_copyFrom 12 = .ok (.invokestatic 30, 3) := by decide +kernel
theorem dX4_copyFrom_15 : decode cX4_copyFrom 15 = .ok (.aload_n 1, 1) := by decide +kernel
theorem dX4_copyFrom_16 : decode cX4_copyFrom 16 = .ok (.getfield 15, 3) := by decide +kernel
theorem dX4_copyFrom_19 : decode cX4_copyFrom 19 = .ok (.iconst 0, 1) := by decide +kernel
theorem dX4_copyFrom_20 : decode cX4_copyFrom 20 = .ok (.aload_n 0, 1) := by decide +kernel
theorem dX4_copyFrom_21 : decode cX4_copyFrom 21 = .ok (.getfield 15, 3) := by decide +kernel
theorem dX4_copyFrom_24 : decode cX4_copyFrom 24 = .ok (.iconst 0, 1) := by decide +kernel
theorem dX4_copyFrom_25 : decode cX4_copyFrom 25 = .ok (.bipush 6, 2) := by decide +kernel
theorem dX4_copyFrom_27 : decode cX4_copyFrom 27 = .ok (.invokestatic 30, 3) := by decide +kernel
theorem dX4_copyFrom_30 : decode cX4_copyFrom 30 = .ok (.aload_n 1, 1) := by decide +kernel
theorem dX4_copyFrom_31 : decode cX4_copyFrom 31 = .ok (.getfield 18, 3) := by decide +kernel
theorem dX4_copyFrom_34 : decode cX4_copyFrom 34 = .ok (.iconst 0, 1) := by decide +kernel
theorem dX4_copyFrom_35 : decode cX4_copyFrom 35 = .ok (.aload_n 0, 1) := by decide +kernel
theorem dX4_copyFrom_36 : decode cX4_copyFrom 36 = .ok (.getfield 18, 3) := by decide +kernel
theorem dX4_copyFrom_39 : decode cX4_copyFrom 39 = .ok (.iconst 0, 1) := by decide +kernel
theorem dX4_copyFrom_40 : decode cX4_copyFrom 40 = .ok (.bipush 6, 2) := by decide +kernel
theorem dX4_copyFrom_42 : decode cX4_copyFrom 42 = .ok (.invokestatic 30, 3) := by decide +kernel
theorem dX4_copyFrom_45 : decode cX4_copyFrom 45 = .ok (.aload_n 1, 1) := by decide +kernel
theorem dX4_copyFrom_46 : decode cX4_copyFrom 46 = .ok (.getfield 21, 3) := by decide +kernel
theorem dX4_copyFrom_49 : decode cX4_copyFrom 49 = .ok (.iconst 0, 1) := by decide +kernel
theorem dX4_copyFrom_50 : decode cX4_copyFrom 50 = .ok (.aload_n 0, 1) := by decide +kernel
theorem dX4_copyFrom_51 : decode cX4_copyFrom 51 = .ok (.getfield 21, 3) := by decide +kernel
theorem dX4_copyFrom_54 : decode cX4_copyFrom 54 = .ok (.iconst 0, 1) := by decide +kernel
theorem dX4_copyFrom_55 : decode cX4_copyFrom 55 = .ok (.bipush 6, 2) := by decide +kernel
theorem dX4_copyFrom_57 : decode cX4_copyFrom 57 = .ok (.invokestatic 30, 3) := by decide +kernel
theorem dX4_copyFrom_60 : decode cX4_copyFrom 60 = .ok (.aload_n 1, 1) := by decide +kernel
theorem dX4_copyFrom_61 : decode cX4_copyFrom 61 = .ok (.getfield 24, 3) := by decide +kernel
theorem dX4_copyFrom_64 : decode cX4_copyFrom 64 = .ok (.iconst 0, 1) := by decide +kernel
theorem dX4_copyFrom_65 : decode cX4_copyFrom 65 = .ok (.aload_n 0, 1) := by decide +kernel
theorem dX4_copyFrom_66 : decode cX4_copyFrom 66 = .ok (.getfield 24, 3) := by decide +kernel
theorem dX4_copyFrom_69 : decode cX4_copyFrom 69 = .ok (.iconst 0, 1) := by decide +kernel
theorem dX4_copyFrom_70 : decode cX4_copyFrom 70 = .ok (.bipush 6, 2) := by decide +kernel
theorem dX4_copyFrom_72 : decode cX4_copyFrom 72 = .ok (.invokestatic 30, 3) := by decide +kernel
theorem dX4_copyFrom_75 : decode cX4_copyFrom 75 = .ok (.aload_n 1, 1) := by decide +kernel
theorem dX4_copyFrom_76 : decode cX4_copyFrom 76 = .ok (.getfield 27, 3) := by decide +kernel
theorem dX4_copyFrom_79 : decode cX4_copyFrom 79 = .ok (.iconst 0, 1) := by decide +kernel
theorem dX4_copyFrom_80 : decode cX4_copyFrom 80 = .ok (.aload_n 0, 1) := by decide +kernel
theorem dX4_copyFrom_81 : decode cX4_copyFrom 81 = .ok (.getfield 27, 3) := by decide +kernel
theorem dX4_copyFrom_84 : decode cX4_copyFrom 84 = .ok (.iconst 0, 1) := by decide +kernel
theorem dX4_copyFrom_85 : decode cX4_copyFrom 85 = .ok (.bipush 6, 2) := by decide +kernel
theorem dX4_copyFrom_87 : decode cX4_copyFrom 87 = .ok (.invokestatic 30, 3) := by decide +kernel
theorem dX4_copyFrom_90 : decode cX4_copyFrom 90 = .ok (.aload_n 0, 1) := by decide +kernel
theorem dX4_copyFrom_91 : decode cX4_copyFrom 91 = .ok (.aload_n 1, 1) := by decide +kernel
theorem dX4_copyFrom_92 : decode cX4_copyFrom 92 = .ok (.getfield 36, 3) := by decide +kernel
theorem dX4_copyFrom_95 : decode cX4_copyFrom 95 = .ok (.putfield 36, 3) := by decide +kernel
theorem dX4_copyFrom_98 : decode cX4_copyFrom 98 = .ok (.return_, 1) := by decide +kernel
theorem dX4_has_0 : decode cX4_has 0 = .ok (.iload_n 1, 1) := by decide +kernel
theorem dX4_has_1 : decode cX4_has 1 = .ok (.ifCond .lt 21, 3) := by decide +kernel
theorem dX4_has_4 : decode cX4_has 4 = .ok (.iload_n 1, 1) := by decide +kernel
theorem dX4_has_5 : decode cX4_has 5 = .ok (.aload_n 0, 1) := by decide +kernel
theorem dX4_has_6 : decode cX4_has 6 = .ok (.getfield 36, 3) := by decide +kernel
theorem dX4_has_9 : decode cX4_has 9 = .ok (.if_icmp .ge 13, 3) := by decide +kernel
theorem dX4_has_12 : decode cX4_has 12 = .ok (.iload_n 1, 1) := by decide +kernel
theorem dX4_has_13 : decode cX4_has 13 = .ok (.bipush 6, 2) := by decide +kernel
theorem dX4_has_15 : decode cX4_has 15 = .ok (.if_icmp .ge 7, 3) := by decide +kernel
theorem dX4_has_18 : decode cX4_has 18 = .ok (.iconst 1, 1) := by decide +kernel
theorem dX4_has_19 : decode cX4_has 19 = .ok (.goto 4, 3) := by decide +kernel
theorem dX4_has_22 : decode cX4_has 22 = .ok (.iconst 0, 1) := by decide +kernel
theorem dX4_has_23 : decode cX4_has 23 = .ok (.ireturn, 1) := by decide +kernel
theorem dX4_isResting_0 : decode cX4_isResting 0 = .ok (.aload_n 0, 1) := by decide +kernel
theorem dX4_isResting_1 : decode cX4_isResting 1 = .ok (.iload_n 1, 1) := by decide +kernel
theorem dX4_isResting_2 : decode cX4_isResting 2 = .ok (.invokevirtual 40, 3) := by decide +kernel
theorem dX4_isResting_5 : decode cX4_isResting 5 = .ok (.ifCond .eq 17, 3) := by decide +kernel
theorem dX4_isResting_8 : decode cX4_isResting 8 = .ok (.aload_n 0, 1) := by decide +kernel
theorem dX4_isResting_9 : decode cX4_isResting 9 = .ok (.getfield 21, 3) := by decide +kernel
theorem dX4_isResting_12 : decode cX4_isResting 12 = .ok (.iload_n 1, 1) := by decide +kernel
theorem dX4_isResting_13 : decode cX4_isResting 13 = .ok (.iaload, 1) := by decide +kernel
theorem dX4_isResting_14 : decode cX4_isResting 14 = .ok (.iconst 1, 1) := by decide +kernel
theorem dX4_isResting_15 : decode cX4_isResting 15 = .ok (.if_icmp .ne 7, 3) := by decide +kernel
theorem dX4_isResting_18 : decode cX4_isResting 18 = .ok (.iconst 1, 1) := by decide +kernel
theorem dX4_isResting_19 : decode cX4_isResting 19 = .ok (.goto 4, 3) := by decide +kernel
theorem dX4_isResting_22 : decode cX4_isResting 22 = .ok (.iconst 0, 1) := by decide +kernel
theorem dX4_isResting_23 : decode cX4_isResting 23 = .ok (.ireturn, 1) := by decide +kernel
theorem dX4_beside_0 : decode cX4_beside 0 = .ok (.iconst 0, 1) := by decide +kernel
theorem dX4_beside_1 : decode cX4_beside 1 = .ok (.istore_n 2, 1) := by decide +kernel
theorem dX4_beside_2 : decode cX4_beside 2 = .ok (.iload_n 2, 1) := by decide +kernel
theorem dX4_beside_3 : decode cX4_beside 3 = .ok (.aload_n 0, 1) := by decide +kernel
theorem dX4_beside_4 : decode cX4_beside 4 = .ok (.getfield 36, 3) := by decide +kernel
theorem dX4_beside_7 : decode cX4_beside 7 = .ok (.if_icmp .ge 27, 3) := by decide +kernel
theorem dX4_beside_10 : decode cX4_beside 10 = .ok (.iload_n 2, 1) := by decide +kernel
theorem dX4_beside_11 : decode cX4_beside 11 = .ok (.bipush 6, 2) := by decide +kernel
theorem dX4_beside_13 : decode cX4_beside 13 = .ok (.if_icmp .ge 21, 3) := by decide +kernel
theorem dX4_beside_16 : decode cX4_beside 16 = .ok (.aload_n 0, 1) := by decide +kernel
theorem dX4_beside_17 : decode cX4_beside 17 = .ok (.getfield 9, 3) := by decide +kernel
theorem dX4_beside_20 : decode cX4_beside 20 = .ok (.iload_n 2, 1) := by decide +kernel
theorem dX4_beside_21 : decode cX4_beside 21 = .ok (.iaload, 1) := by decide +kernel
theorem dX4_beside_22 : decode cX4_beside 22 = .ok (.iload_n 1, 1) := by decide +kernel
theorem dX4_beside_23 : decode cX4_beside 23 = .ok (.if_icmp .ne 5, 3) := by decide +kernel
theorem dX4_beside_26 : decode cX4_beside 26 = .ok (.iload_n 2, 1) := by decide +kernel
theorem dX4_beside_27 : decode cX4_beside 27 = .ok (.ireturn, 1) := by decide +kernel
theorem dX4_beside_28 : decode cX4_beside 28 = .ok (.iinc 2 1, 3) := by decide +kernel
theorem dX4_beside_31 : decode cX4_beside 31 = .ok (.goto (-29), 3) := by decide +kernel
theorem dX4_beside_34 : decode cX4_beside 34 = .ok (.bipush (-5), 2) := by decide +kernel
theorem dX4_beside_36 : decode cX4_beside 36 = .ok (.ireturn, 1) := by decide +kernel
theorem dX4_add_0 : decode cX4_add 0 = .ok (.iload_n 1, 1) := by decide +kernel
theorem dX4_add_1 : decode cX4_add 1 = .ok (.invokestatic 44, 3) := by decide +kernel
theorem dX4_add_4 : decode cX4_add 4 = .ok (.ifCond .ne 5, 3) := by decide +kernel
theorem dX4_add_7 : decode cX4_add 7 = .ok (.iconst (-1), 1) := by decide +kernel
theorem dX4_add_8 : decode cX4_add 8 = .ok (.ireturn, 1) := by decide +kernel
theorem dX4_add_9 : decode cX4_add 9 = .ok (.iload_n 2, 1) := by decide +kernel
theorem dX4_add_10 : decode cX4_add 10 = .ok (.invokestatic 47, 3) := by decide +kernel
theorem dX4_add_13 : decode cX4_add 13 = .ok (.ifCond .ne 6, 3) := by decide +kernel
theorem dX4_add_16 : decode cX4_add 16 = .ok (.bipush (-2), 2) := by decide +kernel
theorem dX4_add_18 : decode cX4_add 18 = .ok (.ireturn, 1) := by decide +kernel
theorem dX4_add_19 : decode cX4_add 19 = .ok (.aload_n 0, 1) := by decide +kernel
theorem dX4_add_20 : decode cX4_add 20 = .ok (.iload_n 1, 1) := by decide +kernel
theorem dX4_add_21 : decode cX4_add 21 = .ok (.invokevirtual 50, 3) := by decide +kernel
theorem dX4_add_24 : decode cX4_add 24 = .ok (.bipush (-5), 2) := by decide +kernel
theorem dX4_add_26 : decode cX4_add 26 = .ok (.if_icmp .eq 6, 3) := by decide +kernel
theorem dX4_add_29 : decode cX4_add 29 = .ok (.bipush (-4), 2) := by decide +kernel
theorem dX4_add_31 : decode cX4_add 31 = .ok (.ireturn, 1) := by decide +kernel
theorem dX4_add_32 : decode cX4_add 32 = .ok (.aload_n 0, 1) := by decide +kernel
theorem dX4_add_33 : decode cX4_add 33 = .ok (.getfield 36, 3) := by decide +kernel
theorem dX4_add_36 : decode cX4_add 36 = .ok (.istore_n 3, 1) := by decide +kernel
theorem dX4_add_37 : decode cX4_add 37 = .ok (.iload_n 3, 1) := by decide +kernel
theorem dX4_add_38 : decode cX4_add 38 = .ok (.ifCond .lt 9, 3) := by decide +kernel
theorem dX4_add_41 : decode cX4_add 41 = .ok (.iload_n 3, 1) := by decide +kernel
theorem dX4_add_42 : decode cX4_add 42 = .ok (.bipush 6, 2) := by decide +kernel
theorem dX4_add_44 : decode cX4_add 44 = .ok (.if_icmp .lt 6, 3) := by decide +kernel
theorem dX4_add_47 : decode cX4_add 47 = .ok (.bipush (-3), 2) := by decide +kernel
theorem dX4_add_49 : decode cX4_add 49 = .ok (.ireturn, 1) := by decide +kernel
theorem dX4_add_50 : decode cX4_add 50 = .ok (.aload_n 0, 1) := by decide +kernel
theorem dX4_add_51 : decode cX4_add 51 = .ok (.getfield 9, 3) := by decide +kernel
theorem dX4_add_54 : decode cX4_add 54 = .ok (.iload_n 3, 1) := by decide +kernel
theorem dX4_add_55 : decode cX4_add 55 = .ok (.iload_n 1, 1) := by decide +kernel
theorem dX4_add_56 : decode cX4_add 56 = .ok (.iastore, 1) := by decide +kernel
theorem dX4_add_57 : decode cX4_add 57 = .ok (.aload_n 0, 1) := by decide +kernel
theorem dX4_add_58 : decode cX4_add 58 = .ok (.getfield 15, 3) := by decide +kernel
theorem dX4_add_61 : decode cX4_add 61 = .ok (.iload_n 3, 1) := by decide +kernel
theorem dX4_add_62 : decode cX4_add 62 = .ok (.iload_n 2, 1) := by decide +kernel
theorem dX4_add_63 : decode cX4_add 63 = .ok (.iastore, 1) := by decide +kernel
theorem dX4_add_64 : decode cX4_add 64 = .ok (.aload_n 0, 1) := by decide +kernel
theorem dX4_add_65 : decode cX4_add 65 = .ok (.getfield 18, 3) := by decide +kernel
theorem dX4_add_68 : decode cX4_add 68 = .ok (.iload_n 3, 1) := by decide +kernel
theorem dX4_add_69 : decode cX4_add 69 = .ok (.iconst 0, 1) := by decide +kernel
theorem dX4_add_70 : decode cX4_add 70 = .ok (.iastore, 1) := by decide +kernel
theorem dX4_add_71 : decode cX4_add 71 = .ok (.aload_n 0, 1) := by decide +kernel
theorem dX4_add_72 : decode cX4_add 72 = .ok (.getfield 21, 3) := by decide +kernel
theorem dX4_add_75 : decode cX4_add 75 = .ok (.iload_n 3, 1) := by decide +kernel
theorem dX4_add_76 : decode cX4_add 76 = .ok (.iconst 0, 1) := by decide +kernel
theorem dX4_add_77 : decode cX4_add 77 = .ok (.iastore, 1) := by decide +kernel
theorem dX4_add_78 : decode cX4_add 78 = .ok (.aload_n 0, 1) := by decide +kernel
theorem dX4_add_79 : decode cX4_add 79 = .ok (.getfield 24, 3) := by decide +kernel
theorem dX4_add_82 : decode cX4_add 82 = .ok (.iload_n 3, 1) := by decide +kernel
theorem dX4_add_83 : decode cX4_add 83 = .ok (.iconst 0, 1) := by decide +kernel
theorem dX4_add_84 : decode cX4_add 84 = .ok (.iastore, 1) := by decide +kernel
theorem dX4_add_85 : decode cX4_add 85 = .ok (.aload_n 0, 1) := by decide +kernel
theorem dX4_add_86 : decode cX4_add 86 = .ok (.getfield 27, 3) := by decide +kernel
theorem dX4_add_89 : decode cX4_add 89 = .ok (.iload_n 3, 1) := by decide +kernel
theorem dX4_add_90 : decode cX4_add 90 = .ok (.iconst 0, 1) := by decide +kernel
theorem dX4_add_91 : decode cX4_add 91 = .ok (.iastore, 1) := by decide +kernel
theorem dX4_add_92 : decode cX4_add 92 = .ok (.aload_n 0, 1) := by decide +kernel
theorem dX4_add_93 : decode cX4_add 93 = .ok (.iload_n 3, 1) := by decide +kernel
theorem dX4_add_94 : decode cX4_add 94 = .ok (.iconst 1, 1) := by decide +kernel
theorem dX4_add_95 : decode cX4_add 95 = .ok (.iadd, 1) := by decide +kernel
theorem dX4_add_96 : decode cX4_add 96 = .ok (.putfield 36, 3) := by decide +kernel
theorem dX4_add_99 : decode cX4_add 99 = .ok (.iload_n 3, 1) := by decide +kernel
theorem dX4_add_100 : decode cX4_add 100 = .ok (.ireturn, 1) := by decide +kernel
theorem dX4_remove_0 : decode cX4_remove 0 = .ok (.aload_n 0, 1) := by decide +kernel
theorem dX4_remove_1 : decode cX4_remove 1 = .ok (.iload_n 1, 1) := by decide +kernel
theorem dX4_remove_2 : decode cX4_remove 2 = .ok (.invokevirtual 40, 3) := by decide +kernel
theorem dX4_remove_5 : decode cX4_remove 5 = .ok (.ifCond .ne 5, 3) := by decide +kernel
theorem dX4_remove_8 : decode cX4_remove 8 = .ok (.iconst (-1), 1) := by decide +kernel
theorem dX4_remove_9 : decode cX4_remove 9 = .ok (.ireturn, 1) := by decide +kernel
theorem dX4_remove_10 : decode cX4_remove 10 = .ok (.aload_n 0, 1) := by decide +kernel
theorem dX4_remove_11 : decode cX4_remove 11 = .ok (.getfield 18, 3) := by decide +kernel
theorem dX4_remove_14 : decode cX4_remove 14 = .ok (.iload_n 1, 1) := by decide +kernel
theorem dX4_remove_15 : decode cX4_remove 15 = .ok (.iaload, 1) := by decide +kernel
theorem dX4_remove_16 : decode cX4_remove 16 = .ok (.istore_n 2, 1) := by decide +kernel
theorem dX4_remove_17 : decode cX4_remove 17 = .ok (.aload_n 0, 1) := by decide +kernel
theorem dX4_remove_18 : decode cX4_remove 18 = .ok (.getfield 9, 3) := by decide +kernel
theorem dX4_remove_21 : decode cX4_remove 21 = .ok (.iload_n 1, 1) := by decide +kernel
theorem dX4_remove_22 : decode cX4_remove 22 = .ok (.invokestatic 54, 3) := by decide +kernel
theorem dX4_remove_25 : decode cX4_remove 25 = .ok (.aload_n 0, 1) := by decide +kernel
theorem dX4_remove_26 : decode cX4_remove 26 = .ok (.getfield 15, 3) := by decide +kernel
theorem dX4_remove_29 : decode cX4_remove 29 = .ok (.iload_n 1, 1) := by decide +kernel
theorem dX4_remove_30 : decode cX4_remove 30 = .ok (.invokestatic 54, 3) := by decide +kernel
theorem dX4_remove_33 : decode cX4_remove 33 = .ok (.aload_n 0, 1) := by decide +kernel
theorem dX4_remove_34 : decode cX4_remove 34 = .ok (.getfield 18, 3) := by decide +kernel
theorem dX4_remove_37 : decode cX4_remove 37 = .ok (.iload_n 1, 1) := by decide +kernel
theorem dX4_remove_38 : decode cX4_remove 38 = .ok (.invokestatic 54, 3) := by decide +kernel
theorem dX4_remove_41 : decode cX4_remove 41 = .ok (.aload_n 0, 1) := by decide +kernel
theorem dX4_remove_42 : decode cX4_remove 42 = .ok (.getfield 21, 3) := by decide +kernel
theorem dX4_remove_45 : decode cX4_remove 45 = .ok (.iload_n 1, 1) := by decide +kernel
theorem dX4_remove_46 : decode cX4_remove 46 = .ok (.invokestatic 54, 3) := by decide +kernel
theorem dX4_remove_49 : decode cX4_remove 49 = .ok (.aload_n 0, 1) := by decide +kernel
theorem dX4_remove_50 : decode cX4_remove 50 = .ok (.getfield 24, 3) := by decide +kernel
theorem dX4_remove_53 : decode cX4_remove 53 = .ok (.iload_n 1, 1) := by decide +kernel
theorem dX4_remove_54 : decode cX4_remove 54 = .ok (.invokestatic 54, 3) := by decide +kernel
theorem dX4_remove_57 : decode cX4_remove 57 = .ok (.aload_n 0, 1) := by decide +kernel
theorem dX4_remove_58 : decode cX4_remove 58 = .ok (.getfield 27, 3) := by decide +kernel
theorem dX4_remove_61 : decode cX4_remove 61 = .ok (.iload_n 1, 1) := by decide +kernel
theorem dX4_remove_62 : decode cX4_remove 62 = .ok (.invokestatic 54, 3) := by decide +kernel
theorem dX4_remove_65 : decode cX4_remove 65 = .ok (.aload_n 0, 1) := by decide +kernel
theorem dX4_remove_66 : decode cX4_remove 66 = .ok (.dup, 1) := by decide +kernel
theorem dX4_remove_67 : decode cX4_remove 67 = .ok (.getfield 36, 3) := by decide +kernel
theorem dX4_remove_70 : decode cX4_remove 70 = .ok (.iconst 1, 1) := by decide +kernel
theorem dX4_remove_71 : decode cX4_remove 71 = .ok (.isub, 1) := by decide +kernel
theorem dX4_remove_72 : decode cX4_remove 72 = .ok (.putfield 36, 3) := by decide +kernel
theorem dX4_remove_75 : decode cX4_remove 75 = .ok (.iload_n 2, 1) := by decide +kernel
theorem dX4_remove_76 : decode cX4_remove 76 = .ok (.ireturn, 1) := by decide +kernel
theorem dX4_closeGap_0 : decode cX4_closeGap 0 = .ok (.iload_n 1, 1) := by decide +kernel
theorem dX4_closeGap_1 : decode cX4_closeGap 1 = .ok (.iconst 0, 1) := by decide +kernel
theorem dX4_closeGap_2 : decode cX4_closeGap 2 = .ok (.invokestatic 58, 3) := by decide +kernel
theorem dX4_closeGap_5 : decode cX4_closeGap 5 = .ok (.istore_n 2, 1) := by decide +kernel
theorem dX4_closeGap_6 : decode cX4_closeGap 6 = .ok (.iload_n 2, 1) := by decide +kernel
theorem dX4_closeGap_7 : decode cX4_closeGap 7 = .ok (.iconst 1, 1) := by decide +kernel
theorem dX4_closeGap_8 : decode cX4_closeGap 8 = .ok (.iadd, 1) := by decide +kernel
theorem dX4_closeGap_9 : decode cX4_closeGap 9 = .ok (.aload_n 0, 1) := by decide +kernel
theorem dX4_closeGap_10 : decode cX4_closeGap 10 = .ok (.arraylength, 1) := by decide +kernel
theorem dX4_closeGap_11 : decode cX4_closeGap 11 = .ok (.if_icmp .ge 17, 3) := by decide +kernel
theorem dX4_closeGap_14 : decode cX4_closeGap 14 = .ok (.aload_n 0, 1) := by decide +kernel
theorem dX4_closeGap_15 : decode cX4_closeGap 15 = .ok (.iload_n 2, 1) := by decide +kernel
theorem dX4_closeGap_16 : decode cX4_closeGap 16 = .ok (.aload_n 0, 1) := by decide +kernel
theorem dX4_closeGap_17 : decode cX4_closeGap 17 = .ok (.iload_n 2, 1) := by decide +kernel
theorem dX4_closeGap_18 : decode cX4_closeGap 18 = .ok (.iconst 1, 1) := by decide +kernel
theorem dX4_closeGap_19 : decode cX4_closeGap 19 = .ok (.iadd, 1) := by decide +kernel
theorem dX4_closeGap_20 : decode cX4_closeGap 20 = .ok (.iaload, 1) := by decide +kernel
theorem dX4_closeGap_21 : decode cX4_closeGap 21 = .ok (.iastore, 1) := by decide +kernel
theorem dX4_closeGap_22 : decode cX4_closeGap 22 = .ok (.iinc 2 1, 3) := by decide +kernel
theorem dX4_closeGap_25 : decode cX4_closeGap 25 = .ok (.goto (-19), 3) := by decide +kernel
theorem dX4_closeGap_28 : decode cX4_closeGap 28 = .ok (.return_, 1) := by decide +kernel
theorem dX4_changeRate_0 : decode cX4_changeRate 0 = .ok (.aload_n 0, 1) := by decide +kernel
theorem dX4_changeRate_1 : decode cX4_changeRate 1 = .ok (.iload_n 1, 1) := by decide +kernel
theorem dX4_changeRate_2 : decode cX4_changeRate 2 = .ok (.invokevirtual 40, 3) := by decide +kernel
theorem dX4_changeRate_5 : decode cX4_changeRate 5 = .ok (.ifCond .ne 5, 3) := by decide +kernel
theorem dX4_changeRate_8 : decode cX4_changeRate 8 = .ok (.iconst (-1), 1) := by decide +kernel
theorem dX4_changeRate_9 : decode cX4_changeRate 9 = .ok (.ireturn, 1) := by decide +kernel
theorem dX4_changeRate_10 : decode cX4_changeRate 10 = .ok (.iload_n 2, 1) := by decide +kernel
theorem dX4_changeRate_11 : decode cX4_changeRate 11 = .ok (.invokestatic 47, 3) := by decide +kernel
theorem dX4_changeRate_14 : decode cX4_changeRate 14 = .ok (.ifCond .ne 6, 3) := by decide +kernel
theorem dX4_changeRate_17 : decode cX4_changeRate 17 = .ok (.bipush (-2), 2) := by decide +kernel
theorem dX4_changeRate_19 : decode cX4_changeRate 19 = .ok (.ireturn, 1) := by decide +kernel
theorem dX4_changeRate_20 : decode cX4_changeRate 20 = .ok (.aload_n 0, 1) := by decide +kernel
theorem dX4_changeRate_21 : decode cX4_changeRate 21 = .ok (.getfield 15, 3) := by decide +kernel
theorem dX4_changeRate_24 : decode cX4_changeRate 24 = .ok (.iload_n 1, 1) := by decide +kernel
theorem dX4_changeRate_25 : decode cX4_changeRate 25 = .ok (.iaload, 1) := by decide +kernel
theorem dX4_changeRate_26 : decode cX4_changeRate 26 = .ok (.istore_n 3, 1) := by decide +kernel
theorem dX4_changeRate_27 : decode cX4_changeRate 27 = .ok (.aload_n 0, 1) := by decide +kernel
theorem dX4_changeRate_28 : decode cX4_changeRate 28 = .ok (.getfield 15, 3) := by decide +kernel
theorem dX4_changeRate_31 : decode cX4_changeRate 31 = .ok (.iload_n 1, 1) := by decide +kernel
theorem dX4_changeRate_32 : decode cX4_changeRate 32 = .ok (.iload_n 2, 1) := by decide +kernel
theorem dX4_changeRate_33 : decode cX4_changeRate 33 = .ok (.iastore, 1) := by decide +kernel
theorem dX4_changeRate_34 : decode cX4_changeRate 34 = .ok (.iload_n 3, 1) := by decide +kernel
theorem dX4_changeRate_35 : decode cX4_changeRate 35 = .ok (.iload_n 2, 1) := by decide +kernel
theorem dX4_changeRate_36 : decode cX4_changeRate 36 = .ok (.if_icmp .ne 8, 3) := by decide +kernel
theorem dX4_changeRate_39 : decode cX4_changeRate 39 = .ok (.bipush (-5), 2) := by decide +kernel
theorem dX4_changeRate_41 : decode cX4_changeRate 41 = .ok (.goto 4, 3) := by decide +kernel
theorem dX4_changeRate_44 : decode cX4_changeRate 44 = .ok (.iload_n 3, 1) := by decide +kernel
theorem dX4_changeRate_45 : decode cX4_changeRate 45 = .ok (.ireturn, 1) := by decide +kernel
theorem dX4_isRate_0 : decode cX4_isRate 0 = .ok (.iload_n 0, 1) := by decide +kernel
theorem dX4_isRate_1 : decode cX4_isRate 1 = .ok (.iconst 1, 1) := by decide +kernel
theorem dX4_isRate_2 : decode cX4_isRate 2 = .ok (.if_icmp .lt 13, 3) := by decide +kernel
theorem dX4_isRate_5 : decode cX4_isRate 5 = .ok (.iload_n 0, 1) := by decide +kernel
theorem dX4_isRate_6 : decode cX4_isRate 6 = .ok (.bipush 30, 2) := by decide +kernel
theorem dX4_isRate_8 : decode cX4_isRate 8 = .ok (.if_icmp .gt 7, 3) := by decide +kernel
theorem dX4_isRate_11 : decode cX4_isRate 11 = .ok (.iconst 1, 1) := by decide +kernel
theorem dX4_isRate_12 : decode cX4_isRate 12 = .ok (.goto 4, 3) := by decide +kernel
theorem dX4_isRate_15 : decode cX4_isRate 15 = .ok (.iconst 0, 1) := by decide +kernel
theorem dX4_isRate_16 : decode cX4_isRate 16 = .ok (.ireturn, 1) := by decide +kernel
theorem dX4_coneOf_0 : decode cX4_coneOf 0 = .ok (.aload_n 0, 1) := by decide +kernel
theorem dX4_coneOf_1 : decode cX4_coneOf 1 = .ok (.iload_n 1, 1) := by decide +kernel
theorem dX4_coneOf_2 : decode cX4_coneOf 2 = .ok (.invokevirtual 40, 3) := by decide +kernel
theorem dX4_coneOf_5 : decode cX4_coneOf 5 = .ok (.ifCond .eq 13, 3) := by decide +kernel
theorem dX4_coneOf_8 : decode cX4_coneOf 8 = .ok (.aload_n 0, 1) := by decide +kernel
theorem dX4_coneOf_9 : decode cX4_coneOf 9 = .ok (.getfield 21, 3) := by decide +kernel
theorem dX4_coneOf_12 : decode cX4_coneOf 12 = .ok (.iload_n 1, 1) := by decide +kernel
theorem dX4_coneOf_13 : decode cX4_coneOf 13 = .ok (.iaload, 1) := by decide +kernel
theorem dX4_coneOf_14 : decode cX4_coneOf 14 = .ok (.iconst 1, 1) := by decide +kernel
theorem dX4_coneOf_15 : decode cX4_coneOf 15 = .ok (.if_icmp .ne 5, 3) := by decide +kernel
theorem dX4_coneOf_18 : decode cX4_coneOf 18 = .ok (.iconst 0, 1) := by decide +kernel
theorem dX4_coneOf_19 : decode cX4_coneOf 19 = .ok (.ireturn, 1) := by decide +kernel
theorem dX4_coneOf_20 : decode cX4_coneOf 20 = .ok (.aload_n 0, 1) := by decide +kernel
theorem dX4_coneOf_21 : decode cX4_coneOf 21 = .ok (.getfield 15, 3) := by decide +kernel
theorem dX4_coneOf_24 : decode cX4_coneOf 24 = .ok (.iload_n 1, 1) := by decide +kernel
theorem dX4_coneOf_25 : decode cX4_coneOf 25 = .ok (.iaload, 1) := by decide +kernel
theorem dX4_coneOf_26 : decode cX4_coneOf 26 = .ok (.istore_n 2, 1) := by decide +kernel
theorem dX4_coneOf_27 : decode cX4_coneOf 27 = .ok (.iconst 0, 1) := by decide +kernel
theorem dX4_coneOf_28 : decode cX4_coneOf 28 = .ok (.istore_n 3, 1) := by decide +kernel
theorem dX4_coneOf_29 : decode cX4_coneOf 29 = .ok (.iload_n 3, 1) := by decide +kernel
theorem dX4_coneOf_30 : decode cX4_coneOf 30 = .ok (.aload_n 0, 1) := by decide +kernel
theorem dX4_coneOf_31 : decode cX4_coneOf 31 = .ok (.getfield 36, 3) := by decide +kernel
theorem dX4_coneOf_34 : decode cX4_coneOf 34 = .ok (.if_icmp .ge 60, 3) := by decide +kernel
theorem dX4_coneOf_37 : decode cX4_coneOf 37 = .ok (.iload_n 3, 1) := by decide +kernel
theorem dX4_coneOf_38 : decode cX4_coneOf 38 = .ok (.bipush 6, 2) := by decide +kernel
theorem dX4_coneOf_40 : decode cX4_coneOf 40 = .ok (.if_icmp .ge 54, 3) := by decide +kernel
theorem dX4_coneOf_43 : decode cX4_coneOf 43 = .ok (.aload_n 0, 1) := by decide +kernel
theorem dX4_coneOf_44 : decode cX4_coneOf 44 = .ok (.getfield 9, 3) := by decide +kernel
theorem dX4_coneOf_47 : decode cX4_coneOf 47 = .ok (.iload_n 3, 1) := by decide +kernel
theorem dX4_coneOf_48 : decode cX4_coneOf 48 = .ok (.iaload, 1) := by decide +kernel
theorem dX4_coneOf_49 : decode cX4_coneOf 49 = .ok (.aload_n 0, 1) := by decide +kernel
theorem dX4_coneOf_50 : decode cX4_coneOf 50 = .ok (.getfield 9, 3) := by decide +kernel
theorem dX4_coneOf_53 : decode cX4_coneOf 53 = .ok (.iload_n 1, 1) := by decide +kernel
theorem dX4_coneOf_54 : decode cX4_coneOf 54 = .ok (.iaload, 1) := by decide +kernel
theorem dX4_coneOf_55 : decode cX4_coneOf 55 = .ok (.isub, 1) := by decide +kernel
theorem dX4_coneOf_56 : decode cX4_coneOf 56 = .ok (.istore 4, 2) := by decide +kernel
theorem dX4_coneOf_58 : decode cX4_coneOf 58 = .ok (.iload 4, 2) := by decide +kernel
theorem dX4_coneOf_60 : decode cX4_coneOf 60 = .ok (.iconst 1, 1) := by decide +kernel
theorem dX4_coneOf_61 : decode cX4_coneOf 61 = .ok (.if_icmp .eq 9, 3) := by decide +kernel
theorem dX4_coneOf_64 : decode cX4_coneOf 64 = .ok (.iload 4, 2) := by decide +kernel
theorem dX4_coneOf_66 : decode cX4_coneOf 66 = .ok (.iconst (-1), 1) := by decide +kernel
theorem dX4_coneOf_67 : decode cX4_coneOf 67 = .ok (.if_icmp .ne 21, 3) := by decide +kernel
theorem dX4_coneOf_70 : decode cX4_coneOf 70 = .ok (.aload_n 0, 1) := by decide +kernel
theorem dX4_coneOf_71 : decode cX4_coneOf 71 = .ok (.getfield 21, 3) := by decide +kernel
theorem dX4_coneOf_74 : decode cX4_coneOf 74 = .ok (.iload_n 3, 1) := by decide +kernel
theorem dX4_coneOf_75 : decode cX4_coneOf 75 = .ok (.iaload, 1) := by decide +kernel
theorem dX4_coneOf_76 : decode cX4_coneOf 76 = .ok (.ifCond .ne 12, 3) := by decide +kernel
theorem dX4_coneOf_79 : decode cX4_coneOf 79 = .ok (.iload_n 2, 1) := by decide +kernel
theorem dX4_coneOf_80 : decode cX4_coneOf 80 = .ok (.aload_n 0, 1) := by decide +kernel
theorem dX4_coneOf_81 : decode cX4_coneOf 81 = .ok (.getfield 15, 3) := by decide +kernel
theorem dX4_coneOf_84 : decode cX4_coneOf 84 = .ok (.iload_n 3, 1) := by decide +kernel
theorem dX4_coneOf_85 : decode cX4_coneOf 85 = .ok (.iaload, 1) := by decide +kernel
theorem dX4_coneOf_86 : decode cX4_coneOf 86 = .ok (.isub, 1) := by decide +kernel
theorem dX4_coneOf_87 : decode cX4_coneOf 87 = .ok (.istore_n 2, 1) := by decide +kernel
theorem dX4_coneOf_88 : decode cX4_coneOf 88 = .ok (.iinc 3 1, 3) := by decide +kernel
theorem dX4_coneOf_91 : decode cX4_coneOf 91 = .ok (.goto (-62), 3) := by decide +kernel
theorem dX4_coneOf_94 : decode cX4_coneOf 94 = .ok (.iload_n 2, 1) := by decide +kernel
theorem dX4_coneOf_95 : decode cX4_coneOf 95 = .ok (.iconst 0, 1) := by decide +kernel
theorem dX4_coneOf_96 : decode cX4_coneOf 96 = .ok (.invokestatic 58, 3) := by decide +kernel
theorem dX4_coneOf_99 : decode cX4_coneOf 99 = .ok (.ireturn, 1) := by decide +kernel
theorem dX4_drawFrom_0 : decode cX4_drawFrom 0 = .ok (.iconst 0, 1) := by decide +kernel
theorem dX4_drawFrom_1 : decode cX4_drawFrom 1 = .ok (.istore_n 2, 1) := by decide +kernel
theorem dX4_drawFrom_2 : decode cX4_drawFrom 2 = .ok (.iload_n 2, 1) := by decide +kernel
theorem dX4_drawFrom_3 : decode cX4_drawFrom 3 = .ok (.aload_n 0, 1) := by decide +kernel
theorem dX4_drawFrom_4 : decode cX4_drawFrom 4 = .ok (.getfield 36, 3) := by decide +kernel
theorem dX4_drawFrom_7 : decode cX4_drawFrom 7 = .ok (.if_icmp .ge 73, 3) := by decide +kernel
theorem dX4_drawFrom_10 : decode cX4_drawFrom 10 = .ok (.iload_n 2, 1) := by decide +kernel
theorem dX4_drawFrom_11 : decode cX4_drawFrom 11 = .ok (.bipush 6, 2) := by decide +kernel
theorem dX4_drawFrom_13 : decode cX4_drawFrom 13 = .ok (.if_icmp .ge 67, 3) := by decide +kernel
theorem dX4_drawFrom_16 : decode cX4_drawFrom 16 = .ok (.iconst 0, 1) := by decide +kernel
theorem dX4_drawFrom_17 : decode cX4_drawFrom 17 = .ok (.istore_n 3, 1) := by decide +kernel
theorem dX4_drawFrom_18 : decode cX4_drawFrom 18 = .ok (.aload_n 0, 1) := by decide +kernel
theorem dX4_drawFrom_19 : decode cX4_drawFrom 19 = .ok (.getfield 21, 3) := by decide +kernel
theorem dX4_drawFrom_22 : decode cX4_drawFrom 22 = .ok (.iload_n 2, 1) := by decide +kernel
theorem dX4_drawFrom_23 : decode cX4_drawFrom 23 = .ok (.iaload, 1) := by decide +kernel
theorem dX4_drawFrom_24 : decode cX4_drawFrom 24 = .ok (.ifCond .ne 34, 3) := by decide +kernel
theorem dX4_drawFrom_27 : decode cX4_drawFrom 27 = .ok (.aload_n 0, 1) := by decide +kernel
theorem dX4_drawFrom_28 : decode cX4_drawFrom 28 = .ok (.getfield 24, 3) := by decide +kernel
theorem dX4_drawFrom_31 : decode cX4_drawFrom 31 = .ok (.iload_n 2, 1) := by decide +kernel
theorem dX4_drawFrom_32 : decode cX4_drawFrom 32 = .ok (.dup2, 1) := by decide +kernel
theorem dX4_drawFrom_33 : decode cX4_drawFrom 33 = .ok (.iaload, 1) := by decide +kernel
theorem dX4_drawFrom_34 : decode cX4_drawFrom 34 = .ok (.aload_n 0, 1) := by decide +kernel
theorem dX4_drawFrom_35 : decode cX4_drawFrom 35 = .ok (.getfield 15, 3) := by decide +kernel
theorem dX4_drawFrom_38 : decode cX4_drawFrom 38 = .ok (.iload_n 2, 1) := by decide +kernel
theorem dX4_drawFrom_39 : decode cX4_drawFrom 39 = .ok (.iaload, 1) := by decide +kernel
theorem dX4_drawFrom_40 : decode cX4_drawFrom 40 = .ok (.iadd, 1) := by decide +kernel
theorem dX4_drawFrom_41 : decode cX4_drawFrom 41 = .ok (.iastore, 1) := by decide +kernel
theorem dX4_drawFrom_42 : decode cX4_drawFrom 42 = .ok (.aload_n 1, 1) := by decide +kernel
theorem dX4_drawFrom_43 : decode cX4_drawFrom 43 = .ok (.aload_n 0, 1) := by decide +kernel
theorem dX4_drawFrom_44 : decode cX4_drawFrom 44 = .ok (.getfield 9, 3) := by decide +kernel
theorem dX4_drawFrom_47 : decode cX4_drawFrom 47 = .ok (.iload_n 2, 1) := by decide +kernel
theorem dX4_drawFrom_48 : decode cX4_drawFrom 48 = .ok (.iaload, 1) := by decide +kernel
theorem dX4_drawFrom_49 : decode cX4_drawFrom 49 = .ok (.aload_n 0, 1) := by decide +kernel
theorem dX4_drawFrom_50 : decode cX4_drawFrom 50 = .ok (.iload_n 2, 1) := by decide +kernel
theorem dX4_drawFrom_51 : decode cX4_drawFrom 51 = .ok (.invokevirtual 64, 3) := by decide +kernel
theorem dX4_drawFrom_54 : decode cX4_drawFrom 54 = .ok (.invokevirtual 67, 3) := by decide +kernel
theorem dX4_drawFrom_57 : decode cX4_drawFrom 57 = .ok (.istore_n 3, 1) := by decide +kernel
theorem dX4_drawFrom_58 : decode cX4_drawFrom 58 = .ok (.aload_n 0, 1) := by decide +kernel
theorem dX4_drawFrom_59 : decode cX4_drawFrom 59 = .ok (.getfield 18, 3) := by decide +kernel
theorem dX4_drawFrom_62 : decode cX4_drawFrom 62 = .ok (.iload_n 2, 1) := by decide +kernel
theorem dX4_drawFrom_63 : decode cX4_drawFrom 63 = .ok (.aload_n 0, 1) := by decide +kernel
theorem dX4_drawFrom_64 : decode cX4_drawFrom 64 = .ok (.getfield 18, 3) := by decide +kernel
theorem dX4_drawFrom_67 : decode cX4_drawFrom 67 = .ok (.iload_n 2, 1) := by decide +kernel
theorem dX4_drawFrom_68 : decode cX4_drawFrom 68 = .ok (.iaload, 1) := by decide +kernel
theorem dX4_drawFrom_69 : decode cX4_drawFrom 69 = .ok (.iload_n 3, 1) := by decide +kernel
theorem dX4_drawFrom_70 : decode cX4_drawFrom 70 = .ok (.invokestatic 72, 3) := by decide +kernel
theorem dX4_drawFrom_73 : decode cX4_drawFrom 73 = .ok (.iastore, 1) := by decide +kernel
theorem dX4_drawFrom_74 : decode cX4_drawFrom 74 = .ok (.iinc 2 1, 3) := by decide +kernel
theorem dX4_drawFrom_77 : decode cX4_drawFrom 77 = .ok (.goto (-75), 3) := by decide +kernel
theorem dX4_drawFrom_80 : decode cX4_drawFrom 80 = .ok (.aload_n 0, 1) := by decide +kernel
theorem dX4_drawFrom_81 : decode cX4_drawFrom 81 = .ok (.invokevirtual 75, 3) := by decide +kernel
theorem dX4_drawFrom_84 : decode cX4_drawFrom 84 = .ok (.return_, 1) := by decide +kernel
theorem dX4_saltBehind_0 : decode cX4_saltBehind 0 = .ok (.iload_n 1, 1) := by decide +kernel
theorem dX4_saltBehind_1 : decode cX4_saltBehind 1 = .ok (.ifCond .le 9, 3) := by decide +kernel
theorem dX4_saltBehind_4 : decode cX4_saltBehind 4 = .ok (.iload_n 0, 1) := by decide +kernel
theorem dX4_saltBehind_5 : decode cX4_saltBehind 5 = .ok (.iload_n 1, 1) := by decide +kernel
theorem dX4_saltBehind_6 : decode cX4_saltBehind 6 = .ok (.iadd, 1) := by decide +kernel
theorem dX4_saltBehind_7 : decode cX4_saltBehind 7 = .ok (.goto 10, 3) := by decide +kernel
theorem dX4_saltBehind_10 : decode cX4_saltBehind 10 = .ok (.iload_n 0, 1) := by decide +kernel
theorem dX4_saltBehind_11 : decode cX4_saltBehind 11 = .ok (.iconst 2, 1) := by decide +kernel
theorem dX4_saltBehind_12 : decode cX4_saltBehind 12 = .ok (.isub, 1) := by decide +kernel
theorem dX4_saltBehind_13 : decode cX4_saltBehind 13 = .ok (.iconst 0, 1) := by decide +kernel
theorem dX4_saltBehind_14 : decode cX4_saltBehind 14 = .ok (.invokestatic 58, 3) := by decide +kernel
theorem dX4_saltBehind_17 : decode cX4_saltBehind 17 = .ok (.ireturn, 1) := by decide +kernel
theorem dX4_turnOrRecover_0 : decode cX4_turnOrRecover 0 = .ok (.iconst 0, 1) := by decide +kernel
theorem dX4_turnOrRecover_1 : decode cX4_turnOrRecover 1 = .ok (.istore_n 1, 1) := by decide +kernel
theorem dX4_turnOrRecover_2 : decode cX4_turnOrRecover 2 = .ok (.iload_n 1, 1) := by decide +kernel
theorem dX4_turnOrRecover_3 : decode cX4_turnOrRecover 3 = .ok (.aload_n 0, 1) := by decide +kernel
theorem dX4_turnOrRecover_4 : decode cX4_turnOrRecover 4 = .ok (.getfield 36, 3) := by decide +kernel
theorem dX4_turnOrRecover_7 : decode cX4_turnOrRecover 7 = .ok (.if_icmp .ge 71, 3) := by decide +kernel
theorem dX4_turnOrRecover_10 : decode cX4_turnOrRecover 10 = .ok (.iload_n 1, 1) := by decide +kernel
theorem dX4_turnOrRecover_11 : decode cX4_turnOrRecover 11 = .ok (.bipush 6, 2) := by decide +kernel
theorem dX4_turnOrRecover_13 : decode cX4_turnOrRecover 13 = .ok (.if_icmp .ge 65, 3) := by decide +kernel
theorem dX4_turnOrRecover_16 : decode cX4_turnOrRecover 16 = .ok (.aload_n 0, 1) := by decide +kernel
theorem dX4_turnOrRecover_17 : decode cX4_turnOrRecover 17 = .ok (.getfield 21, 3) := by decide +kernel
theorem dX4_turnOrRecover_20 : decode cX4_turnOrRecover 20 = .ok (.iload_n 1, 1) := by decide +kernel
theorem dX4_turnOrRecover_21 : decode cX4_turnOrRecover 21 = .ok (.iaload, 1) := by decide +kernel
theorem dX4_turnOrRecover_22 : decode cX4_turnOrRecover 22 = .ok (.ifCond .ne 34, 3) := by decide +kernel
theorem dX4_turnOrRecover_25 : decode cX4_turnOrRecover 25 = .ok (.aload_n 0, 1) := by decide +kernel
theorem dX4_turnOrRecover_26 : decode cX4_turnOrRecover 26 = .ok (.getfield 18, 3) := by decide +kernel
theorem dX4_turnOrRecover_29 : decode cX4_turnOrRecover 29 = .ok (.iload_n 1, 1) := by decide +kernel
theorem dX4_turnOrRecover_30 : decode cX4_turnOrRecover 30 = .ok (.iaload, 1) := by decide +kernel
theorem dX4_turnOrRecover_31 : decode cX4_turnOrRecover 31 = .ok (.bipush 50, 2) := by decide +kernel
theorem dX4_turnOrRecover_33 : decode cX4_turnOrRecover 33 = .ok (.if_icmp .lt 23, 3) := by decide +kernel
theorem dX4_turnOrRecover_36 : decode cX4_turnOrRecover 36 = .ok (.aload_n 0, 1) := by decide +kernel
theorem dX4_turnOrRecover_37 : decode cX4_turnOrRecover 37 = .ok (.getfield 21, 3) := by decide +kernel
theorem dX4_turnOrRecover_40 : decode cX4_turnOrRecover 40 = .ok (.iload_n 1, 1) := by decide +kernel
theorem dX4_turnOrRecover_41 : decode cX4_turnOrRecover 41 = .ok (.iconst 1, 1) := by decide +kernel
theorem dX4_turnOrRecover_42 : decode cX4_turnOrRecover 42 = .ok (.iastore, 1) := by decide +kernel
theorem dX4_turnOrRecover_43 : decode cX4_turnOrRecover 43 = .ok (.aload_n 0, 1) := by decide +kernel
theorem dX4_turnOrRecover_44 : decode cX4_turnOrRecover 44 = .ok (.getfield 27, 3) := by decide +kernel
theorem dX4_turnOrRecover_47 : decode cX4_turnOrRecover 47 = .ok (.iload_n 1, 1) := by decide +kernel
theorem dX4_turnOrRecover_48 : decode cX4_turnOrRecover 48 = .ok (.dup2, 1) := by decide +kernel
theorem dX4_turnOrRecover_49 : decode cX4_turnOrRecover 49 = .ok (.iaload, 1) := by decide +kernel
theorem dX4_turnOrRecover_50 : decode cX4_turnOrRecover 50 = .ok (.iconst 1, 1) := by decide +kernel
theorem dX4_turnOrRecover_51 : decode cX4_turnOrRecover 51 = .ok (.iadd, 1) := by decide +kernel
theorem dX4_turnOrRecover_52 : decode cX4_turnOrRecover 52 = .ok (.iastore, 1) := by decide +kernel
theorem dX4_turnOrRecover_53 : decode cX4_turnOrRecover 53 = .ok (.goto 19, 3) := by decide +kernel
theorem dX4_turnOrRecover_56 : decode cX4_turnOrRecover 56 = .ok (.aload_n 0, 1) := by decide +kernel
theorem dX4_turnOrRecover_57 : decode cX4_turnOrRecover 57 = .ok (.getfield 18, 3) := by decide +kernel
theorem dX4_turnOrRecover_60 : decode cX4_turnOrRecover 60 = .ok (.iload_n 1, 1) := by decide +kernel
theorem dX4_turnOrRecover_61 : decode cX4_turnOrRecover 61 = .ok (.iaload, 1) := by decide +kernel
theorem dX4_turnOrRecover_62 : decode cX4_turnOrRecover 62 = .ok (.ifCond .ne 10, 3) := by decide +kernel
theorem dX4_turnOrRecover_65 : decode cX4_turnOrRecover 65 = .ok (.aload_n 0, 1) := by decide +kernel
theorem dX4_turnOrRecover_66 : decode cX4_turnOrRecover 66 = .ok (.getfield 21, 3) := by decide +kernel
theorem dX4_turnOrRecover_69 : decode cX4_turnOrRecover 69 = .ok (.iload_n 1, 1) := by decide +kernel
theorem dX4_turnOrRecover_70 : decode cX4_turnOrRecover 70 = .ok (.iconst 0, 1) := by decide +kernel
theorem dX4_turnOrRecover_71 : decode cX4_turnOrRecover 71 = .ok (.iastore, 1) := by decide +kernel
theorem dX4_turnOrRecover_72 : decode cX4_turnOrRecover 72 = .ok (.iinc 1 1, 3) := by decide +kernel
theorem dX4_turnOrRecover_75 : decode cX4_turnOrRecover 75 = .ok (.goto (-73), 3) := by decide +kernel
theorem dX4_turnOrRecover_78 : decode cX4_turnOrRecover 78 = .ok (.return_, 1) := by decide +kernel
theorem dX4_tell_0 : decode cX4_tell 0 = .ok (.aload_n 0, 1) := by decide +kernel
theorem dX4_tell_1 : decode cX4_tell 1 = .ok (.iload_n 1, 1) := by decide +kernel
theorem dX4_tell_2 : decode cX4_tell 2 = .ok (.invokevirtual 40, 3) := by decide +kernel
theorem dX4_tell_5 : decode cX4_tell 5 = .ok (.ifCond .ne 5, 3) := by decide +kernel
theorem dX4_tell_8 : decode cX4_tell 8 = .ok (.iconst (-1), 1) := by decide +kernel
theorem dX4_tell_9 : decode cX4_tell 9 = .ok (.ireturn, 1) := by decide +kernel
theorem dX4_tell_10 : decode cX4_tell 10 = .ok (.iload_n 2, 1) := by decide +kernel
theorem dX4_tell_11 : decode cX4_tell 11 = .ok (.tableswitch 89 0 6 #[41, 48, 55, 62, 69, 75, 82], 41) := by decide +kernel
theorem dX4_tell_52 : decode cX4_tell 52 = .ok (.aload_n 0, 1) := by decide +kernel
theorem dX4_tell_53 : decode cX4_tell 53 = .ok (.getfield 9, 3) := by decide +kernel
theorem dX4_tell_56 : decode cX4_tell 56 = .ok (.iload_n 1, 1) := by decide +kernel
theorem dX4_tell_57 : decode cX4_tell 57 = .ok (.iaload, 1) := by decide +kernel
theorem dX4_tell_58 : decode cX4_tell 58 = .ok (.ireturn, 1) := by decide +kernel
theorem dX4_tell_59 : decode cX4_tell 59 = .ok (.aload_n 0, 1) := by decide +kernel
theorem dX4_tell_60 : decode cX4_tell 60 = .ok (.getfield 15, 3) := by decide +kernel
theorem dX4_tell_63 : decode cX4_tell 63 = .ok (.iload_n 1, 1) := by decide +kernel
theorem dX4_tell_64 : decode cX4_tell 64 = .ok (.iaload, 1) := by decide +kernel
theorem dX4_tell_65 : decode cX4_tell 65 = .ok (.ireturn, 1) := by decide +kernel
theorem dX4_tell_66 : decode cX4_tell 66 = .ok (.aload_n 0, 1) := by decide +kernel
theorem dX4_tell_67 : decode cX4_tell 67 = .ok (.getfield 18, 3) := by decide +kernel
theorem dX4_tell_70 : decode cX4_tell 70 = .ok (.iload_n 1, 1) := by decide +kernel
theorem dX4_tell_71 : decode cX4_tell 71 = .ok (.iaload, 1) := by decide +kernel
theorem dX4_tell_72 : decode cX4_tell 72 = .ok (.ireturn, 1) := by decide +kernel
theorem dX4_tell_73 : decode cX4_tell 73 = .ok (.aload_n 0, 1) := by decide +kernel
theorem dX4_tell_74 : decode cX4_tell 74 = .ok (.getfield 21, 3) := by decide +kernel
theorem dX4_tell_77 : decode cX4_tell 77 = .ok (.iload_n 1, 1) := by decide +kernel
theorem dX4_tell_78 : decode cX4_tell 78 = .ok (.iaload, 1) := by decide +kernel
theorem dX4_tell_79 : decode cX4_tell 79 = .ok (.ireturn, 1) := by decide +kernel
theorem dX4_tell_80 : decode cX4_tell 80 = .ok (.aload_n 0, 1) := by decide +kernel
theorem dX4_tell_81 : decode cX4_tell 81 = .ok (.iload_n 1, 1) := by decide +kernel
theorem dX4_tell_82 : decode cX4_tell 82 = .ok (.invokevirtual 64, 3) := by decide +kernel
theorem dX4_tell_85 : decode cX4_tell 85 = .ok (.ireturn, 1) := by decide +kernel
theorem dX4_tell_86 : decode cX4_tell 86 = .ok (.aload_n 0, 1) := by decide +kernel
theorem dX4_tell_87 : decode cX4_tell 87 = .ok (.getfield 24, 3) := by decide +kernel
theorem dX4_tell_90 : decode cX4_tell 90 = .ok (.iload_n 1, 1) := by decide +kernel
theorem dX4_tell_91 : decode cX4_tell 91 = .ok (.iaload, 1) := by decide +kernel
theorem dX4_tell_92 : decode cX4_tell 92 = .ok (.ireturn, 1) := by decide +kernel
theorem dX4_tell_93 : decode cX4_tell 93 = .ok (.aload_n 0, 1) := by decide +kernel
theorem dX4_tell_94 : decode cX4_tell 94 = .ok (.getfield 27, 3) := by decide +kernel
theorem dX4_tell_97 : decode cX4_tell 97 = .ok (.iload_n 1, 1) := by decide +kernel
theorem dX4_tell_98 : decode cX4_tell 98 = .ok (.iaload, 1) := by decide +kernel
theorem dX4_tell_99 : decode cX4_tell 99 = .ok (.ireturn, 1) := by decide +kernel
theorem dX4_tell_100 : decode cX4_tell 100 = .ok (.bipush (-2), 2) := by decide +kernel
theorem dX4_tell_102 : decode cX4_tell 102 = .ok (.ireturn, 1) := by decide +kernel
theorem dX4_sumOf_0 : decode cX4_sumOf 0 = .ok (.iconst 0, 1) := by decide +kernel
theorem dX4_sumOf_1 : decode cX4_sumOf 1 = .ok (.istore_n 2, 1) := by decide +kernel
theorem dX4_sumOf_2 : decode cX4_sumOf 2 = .ok (.iconst 0, 1) := by decide +kernel
theorem dX4_sumOf_3 : decode cX4_sumOf 3 = .ok (.istore_n 3, 1) := by decide +kernel
theorem dX4_sumOf_4 : decode cX4_sumOf 4 = .ok (.iload_n 3, 1) := by decide +kernel
theorem dX4_sumOf_5 : decode cX4_sumOf 5 = .ok (.aload_n 0, 1) := by decide +kernel
theorem dX4_sumOf_6 : decode cX4_sumOf 6 = .ok (.getfield 36, 3) := by decide +kernel
theorem dX4_sumOf_9 : decode cX4_sumOf 9 = .ok (.if_icmp .ge 21, 3) := by decide +kernel
theorem dX4_sumOf_12 : decode cX4_sumOf 12 = .ok (.iload_n 3, 1) := by decide +kernel
theorem dX4_sumOf_13 : decode cX4_sumOf 13 = .ok (.aload_n 1, 1) := by decide +kernel
theorem dX4_sumOf_14 : decode cX4_sumOf 14 = .ok (.arraylength, 1) := by decide +kernel
theorem dX4_sumOf_15 : decode cX4_sumOf 15 = .ok (.if_icmp .ge 15, 3) := by decide +kernel
theorem dX4_sumOf_18 : decode cX4_sumOf 18 = .ok (.iload_n 2, 1) := by decide +kernel
theorem dX4_sumOf_19 : decode cX4_sumOf 19 = .ok (.aload_n 1, 1) := by decide +kernel
theorem dX4_sumOf_20 : decode cX4_sumOf 20 = .ok (.iload_n 3, 1) := by decide +kernel
theorem dX4_sumOf_21 : decode cX4_sumOf 21 = .ok (.iaload, 1) := by decide +kernel
theorem dX4_sumOf_22 : decode cX4_sumOf 22 = .ok (.iadd, 1) := by decide +kernel
theorem dX4_sumOf_23 : decode cX4_sumOf 23 = .ok (.istore_n 2, 1) := by decide +kernel
theorem dX4_sumOf_24 : decode cX4_sumOf 24 = .ok (.iinc 3 1, 3) := by decide +kernel
theorem dX4_sumOf_27 : decode cX4_sumOf 27 = .ok (.goto (-23), 3) := by decide +kernel
theorem dX4_sumOf_30 : decode cX4_sumOf 30 = .ok (.iload_n 2, 1) := by decide +kernel
theorem dX4_sumOf_31 : decode cX4_sumOf 31 = .ok (.ireturn, 1) := by decide +kernel
theorem dX5_init_0 : decode cX5_init 0 = .ok (.aload_n 0, 1) := by decide +kernel
theorem dX5_init_1 : decode cX5_init 1 = .ok (.invokespecial 3, 3) := by decide +kernel
theorem dX5_init_4 : decode cX5_init 4 = .ok (.aload_n 0, 1) := by decide +kernel
theorem dX5_init_5 : decode cX5_init 5 = .ok (.new 9, 3) := by decide +kernel
theorem dX5_init_8 : decode cX5_init 8 = .ok (.dup, 1) := by decide +kernel
theorem dX5_init_9 : decode cX5_init 9 = .ok (.invokespecial 11, 3) := by decide +kernel
theorem dX5_init_12 : decode cX5_init 12 = .ok (.putfield 12, 3) := by decide +kernel
theorem dX5_init_15 : decode cX5_init 15 = .ok (.aload_n 0, 1) := by decide +kernel
theorem dX5_init_16 : decode cX5_init 16 = .ok (.new 9, 3) := by decide +kernel
theorem dX5_init_19 : decode cX5_init 19 = .ok (.dup, 1) := by decide +kernel
theorem dX5_init_20 : decode cX5_init 20 = .ok (.invokespecial 11, 3) := by decide +kernel
theorem dX5_init_23 : decode cX5_init 23 = .ok (.putfield 16, 3) := by decide +kernel
theorem dX5_init_26 : decode cX5_init 26 = .ok (.aload_n 0, 1) := by decide +kernel
theorem dX5_init_27 : decode cX5_init 27 = .ok (.new 9, 3) := by decide +kernel
theorem dX5_init_30 : decode cX5_init 30 = .ok (.dup, 1) := by decide +kernel
theorem dX5_init_31 : decode cX5_init 31 = .ok (.invokespecial 11, 3) := by decide +kernel
theorem dX5_init_34 : decode cX5_init 34 = .ok (.putfield 19, 3) := by decide +kernel
theorem dX5_init_37 : decode cX5_init 37 = .ok (.aload_n 0, 1) := by decide +kernel
theorem dX5_init_38 : decode cX5_init 38 = .ok (.new 22, 3) := by decide +kernel
theorem dX5_init_41 : decode cX5_init 41 = .ok (.dup, 1) := by decide +kernel
theorem dX5_init_42 : decode cX5_init 42 = .ok (.invokespecial 24, 3) := by decide +kernel
theorem dX5_init_45 : decode cX5_init 45 = .ok (.putfield 25, 3) := by decide +kernel
theorem dX5_init_48 : decode cX5_init 48 = .ok (.aload_n 0, 1) := by decide +kernel
theorem dX5_init_49 : decode cX5_init 49 = .ok (.new 29, 3) := by decide +kernel
theorem dX5_init_52 : decode cX5_init 52 = .ok (.dup, 1) := by decide +kernel
theorem dX5_init_53 : decode cX5_init 53 = .ok (.invokespecial 31, 3) := by decide +kernel
theorem dX5_init_56 : decode cX5_init 56 = .ok (.putfield 32, 3) := by decide +kernel
theorem dX5_init_59 : decode cX5_init 59 = .ok (.return_, 1) := by decide +kernel
theorem dX5_dig_0 : decode cX5_dig 0 = .ok (.aload_n 0, 1) := by decide +kernel
theorem dX5_dig_1 : decode cX5_dig 1 = .ok (.getfield 16, 3) := by decide +kernel
theorem dX5_dig_4 : decode cX5_dig 4 = .ok (.aload_n 0, 1) := by decide +kernel
theorem dX5_dig_5 : decode cX5_dig 5 = .ok (.getfield 12, 3) := by decide +kernel
theorem dX5_dig_8 : decode cX5_dig 8 = .ok (.invokevirtual 36, 3) := by decide +kernel
theorem dX5_dig_11 : decode cX5_dig 11 = .ok (.aload_n 0, 1) := by decide +kernel
theorem dX5_dig_12 : decode cX5_dig 12 = .ok (.aload_n 0, 1) := by decide +kernel
theorem dX5_dig_13 : decode cX5_dig 13 = .ok (.getfield 12, 3) := by decide +kernel
theorem dX5_dig_16 : decode cX5_dig 16 = .ok (.getfield 40, 3) := by decide +kernel
theorem dX5_dig_19 : decode cX5_dig 19 = .ok (.iload_n 1, 1) := by decide +kernel
theorem dX5_dig_20 : decode cX5_dig 20 = .ok (.iload_n 2, 1) := by decide +kernel
theorem dX5_dig_21 : decode cX5_dig 21 = .ok (.invokevirtual 44, 3) := by decide +kernel
theorem dX5_dig_24 : decode cX5_dig 24 = .ok (.invokevirtual 50, 3) := by decide +kernel
theorem dX5_dig_27 : decode cX5_dig 27 = .ok (.ireturn, 1) := by decide +kernel
theorem dX5_build_0 : decode cX5_build 0 = .ok (.aload_n 0, 1) := by decide +kernel
theorem dX5_build_1 : decode cX5_build 1 = .ok (.getfield 16, 3) := by decide +kernel
theorem dX5_build_4 : decode cX5_build 4 = .ok (.aload_n 0, 1) := by decide +kernel
theorem dX5_build_5 : decode cX5_build 5 = .ok (.getfield 12, 3) := by decide +kernel
theorem dX5_build_8 : decode cX5_build 8 = .ok (.invokevirtual 36, 3) := by decide +kernel
theorem dX5_build_11 : decode cX5_build 11 = .ok (.aload_n 0, 1) := by decide +kernel
theorem dX5_build_12 : decode cX5_build 12 = .ok (.aload_n 0, 1) := by decide +kernel
theorem dX5_build_13 : decode cX5_build 13 = .ok (.getfield 12, 3) := by decide +kernel
theorem dX5_build_16 : decode cX5_build 16 = .ok (.getfield 40, 3) := by decide +kernel
theorem dX5_build_19 : decode cX5_build 19 = .ok (.iload_n 1, 1) := by decide +kernel
theorem dX5_build_20 : decode cX5_build 20 = .ok (.iload_n 2, 1) := by decide +kernel
theorem dX5_build_21 : decode cX5_build 21 = .ok (.invokevirtual 54, 3) := by decide +kernel
theorem dX5_build_24 : decode cX5_build 24 = .ok (.invokevirtual 50, 3) := by decide +kernel
theorem dX5_build_27 : decode cX5_build 27 = .ok (.ireturn, 1) := by decide +kernel
theorem dX5_flow_0 : decode cX5_flow 0 = .ok (.aload_n 0, 1) := by decide +kernel
theorem dX5_flow_1 : decode cX5_flow 1 = .ok (.getfield 16, 3) := by decide +kernel
theorem dX5_flow_4 : decode cX5_flow 4 = .ok (.aload_n 0, 1) := by decide +kernel
theorem dX5_flow_5 : decode cX5_flow 5 = .ok (.getfield 12, 3) := by decide +kernel
theorem dX5_flow_8 : decode cX5_flow 8 = .ok (.invokevirtual 36, 3) := by decide +kernel
theorem dX5_flow_11 : decode cX5_flow 11 = .ok (.aload_n 0, 1) := by decide +kernel
theorem dX5_flow_12 : decode cX5_flow 12 = .ok (.aload_n 0, 1) := by decide +kernel
theorem dX5_flow_13 : decode cX5_flow 13 = .ok (.getfield 12, 3) := by decide +kernel
theorem dX5_flow_16 : decode cX5_flow 16 = .ok (.iload_n 1, 1) := by decide +kernel
theorem dX5_flow_17 : decode cX5_flow 17 = .ok (.invokevirtual 57, 3) := by decide +kernel
theorem dX5_flow_20 : decode cX5_flow 20 = .ok (.invokevirtual 50, 3) := by decide +kernel
theorem dX5_flow_23 : decode cX5_flow 23 = .ok (.ireturn, 1) := by decide +kernel
theorem dX5_set_0 : decode cX5_set 0 = .ok (.aload_n 0, 1) := by decide +kernel
theorem dX5_set_1 : decode cX5_set 1 = .ok (.getfield 16, 3) := by decide +kernel
theorem dX5_set_4 : decode cX5_set 4 = .ok (.aload_n 0, 1) := by decide +kernel
theorem dX5_set_5 : decode cX5_set 5 = .ok (.getfield 12, 3) := by decide +kernel
theorem dX5_set_8 : decode cX5_set 8 = .ok (.invokevirtual 36, 3) := by decide +kernel
theorem dX5_set_11 : decode cX5_set 11 = .ok (.aload_n 0, 1) := by decide +kernel
theorem dX5_set_12 : decode cX5_set 12 = .ok (.aload_n 0, 1) := by decide +kernel
theorem dX5_set_13 : decode cX5_set 13 = .ok (.getfield 12, 3) := by decide +kernel
theorem dX5_set_16 : decode cX5_set 16 = .ok (.iload_n 1, 1) := by decide +kernel
theorem dX5_set_17 : decode cX5_set 17 = .ok (.iload_n 2, 1) := by decide +kernel
theorem dX5_set_18 : decode cX5_set 18 = .ok (.invokevirtual 60, 3) := by decide +kernel
theorem dX5_set_21 : decode cX5_set 21 = .ok (.invokevirtual 50, 3) := by decide +kernel
theorem dX5_set_24 : decode cX5_set 24 = .ok (.ireturn, 1) := by decide +kernel
theorem dX5_sink_0 : decode cX5_sink 0 = .ok (.aload_n 0, 1) := by decide +kernel
theorem dX5_sink_1 : decode cX5_sink 1 = .ok (.getfield 16, 3) := by decide +kernel
theorem dX5_sink_4 : decode cX5_sink 4 = .ok (.aload_n 0, 1) := by decide +kernel
theorem dX5_sink_5 : decode cX5_sink 5 = .ok (.getfield 12, 3) := by decide +kernel
theorem dX5_sink_8 : decode cX5_sink 8 = .ok (.invokevirtual 36, 3) := by decide +kernel
theorem dX5_sink_11 : decode cX5_sink 11 = .ok (.aload_n 0, 1) := by decide +kernel
theorem dX5_sink_12 : decode cX5_sink 12 = .ok (.aload_n 0, 1) := by decide +kernel
theorem dX5_sink_13 : decode cX5_sink 13 = .ok (.getfield 12, 3) := by decide +kernel
theorem dX5_sink_16 : decode cX5_sink 16 = .ok (.getfield 63, 3) := by decide +kernel
theorem dX5_sink_19 : decode cX5_sink 19 = .ok (.iload_n 1, 1) := by decide +kernel
theorem dX5_sink_20 : decode cX5_sink 20 = .ok (.iload_n 2, 1) := by decide +kernel
theorem dX5_sink_21 : decode cX5_sink 21 = .ok (.invokevirtual 67, 3) := by decide +kernel
theorem dX5_sink_24 : decode cX5_sink 24 = .ok (.invokevirtual 50, 3) := by decide +kernel
theorem dX5_sink_27 : decode cX5_sink 27 = .ok (.ireturn, 1) := by decide +kernel
theorem dX5_fillIn_0 : decode cX5_fillIn 0 = .ok (.aload_n 0, 1) := by decide +kernel
theorem dX5_fillIn_1 : decode cX5_fillIn 1 = .ok (.getfield 16, 3) := by decide +kernel
theorem dX5_fillIn_4 : decode cX5_fillIn 4 = .ok (.aload_n 0, 1) := by decide +kernel
theorem dX5_fillIn_5 : decode cX5_fillIn 5 = .ok (.getfield 12, 3) := by decide +kernel
theorem dX5_fillIn_8 : decode cX5_fillIn 8 = .ok (.invokevirtual 36, 3) := by decide +kernel
theorem dX5_fillIn_11 : decode cX5_fillIn 11 = .ok (.aload_n 0, 1) := by decide +kernel
theorem dX5_fillIn_12 : decode cX5_fillIn 12 = .ok (.aload_n 0, 1) := by decide +kernel
theorem dX5_fillIn_13 : decode cX5_fillIn 13 = .ok (.getfield 12, 3) := by decide +kernel
theorem dX5_fillIn_16 : decode cX5_fillIn 16 = .ok (.getfield 63, 3) := by decide +kernel
theorem dX5_fillIn_19 : decode cX5_fillIn 19 = .ok (.iload_n 1, 1) := by decide +kernel
theorem dX5_fillIn_20 : decode cX5_fillIn 20 = .ok (.invokevirtual 72, 3) := by decide +kernel
theorem dX5_fillIn_23 : decode cX5_fillIn 23 = .ok (.invokevirtual 50, 3) := by decide +kernel
theorem dX5_fillIn_26 : decode cX5_fillIn 26 = .ok (.ireturn, 1) := by decide +kernel
theorem dX5_setRate_0 : decode cX5_setRate 0 = .ok (.aload_n 0, 1) := by decide +kernel
theorem dX5_setRate_1 : decode cX5_setRate 1 = .ok (.getfield 16, 3) := by decide +kernel
theorem dX5_setRate_4 : decode cX5_setRate 4 = .ok (.aload_n 0, 1) := by decide +kernel
theorem dX5_setRate_5 : decode cX5_setRate 5 = .ok (.getfield 12, 3) := by decide +kernel
theorem dX5_setRate_8 : decode cX5_setRate 8 = .ok (.invokevirtual 36, 3) := by decide +kernel
theorem dX5_setRate_11 : decode cX5_setRate 11 = .ok (.aload_n 0, 1) := by decide +kernel
theorem dX5_setRate_12 : decode cX5_setRate 12 = .ok (.aload_n 0, 1) := by decide +kernel
theorem dX5_setRate_13 : decode cX5_setRate 13 = .ok (.getfield 12, 3) := by decide +kernel
theorem dX5_setRate_16 : decode cX5_setRate 16 = .ok (.getfield 63, 3) := by decide +kernel
theorem dX5_setRate_19 : decode cX5_setRate 19 = .ok (.iload_n 1, 1) := by decide +kernel
theorem dX5_setRate_20 : decode cX5_setRate 20 = .ok (.iload_n 2, 1) := by decide +kernel
theorem dX5_setRate_21 : decode cX5_setRate 21 = .ok (.invokevirtual 75, 3) := by decide +kernel
theorem dX5_setRate_24 : decode cX5_setRate 24 = .ok (.invokevirtual 50, 3) := by decide +kernel
theorem dX5_setRate_27 : decode cX5_setRate 27 = .ok (.ireturn, 1) := by decide +kernel
theorem dX5_tide_0 : decode cX5_tide 0 = .ok (.aload_n 0, 1) := by decide +kernel
theorem dX5_tide_1 : decode cX5_tide 1 = .ok (.getfield 16, 3) := by decide +kernel
theorem dX5_tide_4 : decode cX5_tide 4 = .ok (.aload_n 0, 1) := by decide +kernel
theorem dX5_tide_5 : decode cX5_tide 5 = .ok (.getfield 12, 3) := by decide +kernel
theorem dX5_tide_8 : decode cX5_tide 8 = .ok (.invokevirtual 36, 3) := by decide +kernel
theorem dX5_tide_11 : decode cX5_tide 11 = .ok (.aload_n 0, 1) := by decide +kernel
theorem dX5_tide_12 : decode cX5_tide 12 = .ok (.aload_n 0, 1) := by decide +kernel
theorem dX5_tide_13 : decode cX5_tide 13 = .ok (.getfield 12, 3) := by decide +kernel
theorem dX5_tide_16 : decode cX5_tide 16 = .ok (.iload_n 1, 1) := by decide +kernel
theorem dX5_tide_17 : decode cX5_tide 17 = .ok (.iload_n 2, 1) := by decide +kernel
theorem dX5_tide_18 : decode cX5_tide 18 = .ok (.invokevirtual 78, 3) := by decide +kernel
theorem dX5_tide_21 : decode cX5_tide 21 = .ok (.invokevirtual 50, 3) := by decide +kernel
theorem dX5_tide_24 : decode cX5_tide 24 = .ok (.ireturn, 1) := by decide +kernel
theorem dX5_undo_0 : decode cX5_undo 0 = .ok (.aload_n 0, 1) := by decide +kernel
theorem dX5_undo_1 : decode cX5_undo 1 = .ok (.getfield 25, 3) := by decide +kernel
theorem dX5_undo_4 : decode cX5_undo 4 = .ok (.aload_n 0, 1) := by decide +kernel
theorem dX5_undo_5 : decode cX5_undo 5 = .ok (.getfield 12, 3) := by decide +kernel
theorem dX5_undo_8 : decode cX5_undo 8 = .ok (.invokevirtual 121, 3) := by decide +kernel
theorem dX5_undo_11 : decode cX5_undo 11 = .ok (.ifCond .ne 6, 3) := by decide +kernel
theorem dX5_undo_14 : decode cX5_undo 14 = .ok (.bipush (-5), 2) := by decide +kernel
theorem dX5_undo_16 : decode cX5_undo 16 = .ok (.ireturn, 1) := by decide +kernel
theorem dX5_undo_17 : decode cX5_undo 17 = .ok (.aload_n 0, 1) := by decide +kernel
theorem dX5_undo_18 : decode cX5_undo 18 = .ok (.getfield 25, 3) := by decide +kernel
theorem dX5_undo_21 : decode cX5_undo 21 = .ok (.getfield 125, 3) := by decide +kernel
theorem dX5_undo_24 : decode cX5_undo 24 = .ok (.ireturn, 1) := by decide +kernel
theorem dX5_keep_0 : decode cX5_keep 0 = .ok (.aload_n 0, 1) := by decide +kernel
theorem dX5_keep_1 : decode cX5_keep 1 = .ok (.getfield 19, 3) := by decide +kernel
theorem dX5_keep_4 : decode cX5_keep 4 = .ok (.aload_n 0, 1) := by decide +kernel
theorem dX5_keep_5 : decode cX5_keep 5 = .ok (.getfield 12, 3) := by decide +kernel
theorem dX5_keep_8 : decode cX5_keep 8 = .ok (.invokevirtual 36, 3) := by decide +kernel
theorem dX5_keep_11 : decode cX5_keep 11 = .ok (.aload_n 0, 1) := by decide +kernel
theorem dX5_keep_12 : decode cX5_keep 12 = .ok (.iconst 1, 1) := by decide +kernel
theorem dX5_keep_13 : decode cX5_keep 13 = .ok (.putfield 128, 3) := by decide +kernel
theorem dX5_keep_16 : decode cX5_keep 16 = .ok (.aload_n 0, 1) := by decide +kernel
theorem dX5_keep_17 : decode cX5_keep 17 = .ok (.getfield 12, 3) := by decide +kernel
theorem dX5_keep_20 : decode cX5_keep 20 = .ok (.getfield 131, 3) := by decide +kernel
theorem dX5_keep_23 : decode cX5_keep 23 = .ok (.ireturn, 1) := by decide +kernel
theorem dX5_restore_0 : decode cX5_restore 0 = .ok (.aload_n 0, 1) := by decide +kernel
theorem dX5_restore_1 : decode cX5_restore 1 = .ok (.getfield 128, 3) := by decide +kernel
theorem dX5_restore_4 : decode cX5_restore 4 = .ok (.ifCond .ne 6, 3) := by decide +kernel
theorem dX5_restore_7 : decode cX5_restore 7 = .ok (.bipush (-5), 2) := by decide +kernel
theorem dX5_restore_9 : decode cX5_restore 9 = .ok (.ireturn, 1) := by decide +kernel
theorem dX5_restore_10 : decode cX5_restore 10 = .ok (.aload_n 0, 1) := by decide +kernel
theorem dX5_restore_11 : decode cX5_restore 11 = .ok (.getfield 16, 3) := by decide +kernel
theorem dX5_restore_14 : decode cX5_restore 14 = .ok (.aload_n 0, 1) := by decide +kernel
theorem dX5_restore_15 : decode cX5_restore 15 = .ok (.getfield 12, 3) := by decide +kernel
theorem dX5_restore_18 : decode cX5_restore 18 = .ok (.invokevirtual 36, 3) := by decide +kernel
theorem dX5_restore_21 : decode cX5_restore 21 = .ok (.aload_n 0, 1) := by decide +kernel
theorem dX5_restore_22 : decode cX5_restore 22 = .ok (.getfield 12, 3) := by decide +kernel
theorem dX5_restore_25 : decode cX5_restore 25 = .ok (.aload_n 0, 1) := by decide +kernel
theorem dX5_restore_26 : decode cX5_restore 26 = .ok (.getfield 19, 3) := by decide +kernel
theorem dX5_restore_29 : decode cX5_restore 29 = .ok (.invokevirtual 36, 3) := by decide +kernel
theorem dX5_restore_32 : decode cX5_restore 32 = .ok (.aload_n 0, 1) := by decide +kernel
theorem dX5_restore_33 : decode cX5_restore 33 = .ok (.aload_n 0, 1) := by decide +kernel
theorem dX5_restore_34 : decode cX5_restore 34 = .ok (.getfield 12, 3) := by decide +kernel
theorem dX5_restore_37 : decode cX5_restore 37 = .ok (.getfield 131, 3) := by decide +kernel
theorem dX5_restore_40 : decode cX5_restore 40 = .ok (.invokevirtual 50, 3) := by decide +kernel
theorem dX5_restore_43 : decode cX5_restore 43 = .ok (.ireturn, 1) := by decide +kernel
theorem dX5_cell_0 : decode cX5_cell 0 = .ok (.iload_n 1, 1) := by decide +kernel
theorem dX5_cell_1 : decode cX5_cell 1 = .ok (.invokestatic 134, 3) := by decide +kernel
theorem dX5_cell_4 : decode cX5_cell 4 = .ok (.ifCond .ne 5, 3) := by decide +kernel
theorem dX5_cell_7 : decode cX5_cell 7 = .ok (.iconst (-1), 1) := by decide +kernel
theorem dX5_cell_8 : decode cX5_cell 8 = .ok (.ireturn, 1) := by decide +kernel
theorem dX5_cell_9 : decode cX5_cell 9 = .ok (.iload_n 2, 1) := by decide +kernel
theorem dX5_cell_10 : decode cX5_cell 10 = .ok (.tableswitch 98 0 4 #[34, 47, 60, 73, 85], 34) := by decide +kernel
theorem dX5_cell_44 : decode cX5_cell 44 = .ok (.aload_n 0, 1) := by decide +kernel
theorem dX5_cell_45 : decode cX5_cell 45 = .ok (.getfield 12, 3) := by decide +kernel
theorem dX5_cell_48 : decode cX5_cell 48 = .ok (.getfield 40, 3) := by decide +kernel
theorem dX5_cell_51 : decode cX5_cell 51 = .ok (.getfield 137, 3) := by decide +kernel
theorem dX5_cell_54 : decode cX5_cell 54 = .ok (.iload_n 1, 1) := by decide +kernel
theorem dX5_cell_55 : decode cX5_cell 55 = .ok (.iaload, 1) := by decide +kernel
theorem dX5_cell_56 : decode cX5_cell 56 = .ok (.ireturn, 1) := by decide +kernel
theorem dX5_cell_57 : decode cX5_cell 57 = .ok (.aload_n 0, 1) := by decide +kernel
theorem dX5_cell_58 : decode cX5_cell 58 = .ok (.getfield 12, 3) := by decide +kernel
theorem dX5_cell_61 : decode cX5_cell 61 = .ok (.getfield 40, 3) := by decide +kernel
theorem dX5_cell_64 : decode cX5_cell 64 = .ok (.getfield 141, 3) := by decide +kernel
theorem dX5_cell_67 : decode cX5_cell 67 = .ok (.iload_n 1, 1) := by decide +kernel
theorem dX5_cell_68 : decode cX5_cell 68 = .ok (.iaload, 1) := by decide +kernel
theorem dX5_cell_69 : decode cX5_cell 69 = .ok (.ireturn, 1) := by decide +kernel
theorem dX5_cell_70 : decode cX5_cell 70 = .ok (.aload_n 0, 1) := by decide +kernel
theorem dX5_cell_71 : decode cX5_cell 71 = .ok (.getfield 12, 3) := by decide +kernel
theorem dX5_cell_74 : decode cX5_cell 74 = .ok (.getfield 40, 3) := by decide +kernel
theorem dX5_cell_77 : decode cX5_cell 77 = .ok (.getfield 144, 3) := by decide +kernel
theorem dX5_cell_80 : decode cX5_cell 80 = .ok (.iload_n 1, 1) := by decide +kernel
theorem dX5_cell_81 : decode cX5_cell 81 = .ok (.iaload, 1) := by decide +kernel
theorem dX5_cell_82 : decode cX5_cell 82 = .ok (.ireturn, 1) := by decide +kernel
theorem dX5_cell_83 : decode cX5_cell 83 = .ok (.aload_n 0, 1) := by decide +kernel
theorem dX5_cell_84 : decode cX5_cell 84 = .ok (.getfield 12, 3) := by decide +kernel
theorem dX5_cell_87 : decode cX5_cell 87 = .ok (.getfield 63, 3) := by decide +kernel
theorem dX5_cell_90 : decode cX5_cell 90 = .ok (.iload_n 1, 1) := by decide +kernel
theorem dX5_cell_91 : decode cX5_cell 91 = .ok (.invokevirtual 147, 3) := by decide +kernel
theorem dX5_cell_94 : decode cX5_cell 94 = .ok (.ireturn, 1) := by decide +kernel
theorem dX5_cell_95 : decode cX5_cell 95 = .ok (.aload_n 0, 1) := by decide +kernel
theorem dX5_cell_96 : decode cX5_cell 96 = .ok (.getfield 12, 3) := by decide +kernel
theorem dX5_cell_99 : decode cX5_cell 99 = .ok (.getfield 40, 3) := by decide +kernel
theorem dX5_cell_102 : decode cX5_cell 102 = .ok (.getfield 150, 3) := by decide +kernel
theorem dX5_cell_105 : decode cX5_cell 105 = .ok (.iload_n 1, 1) := by decide +kernel
theorem dX5_cell_106 : decode cX5_cell 106 = .ok (.iaload, 1) := by decide +kernel
theorem dX5_cell_107 : decode cX5_cell 107 = .ok (.ireturn, 1) := by decide +kernel
theorem dX5_cell_108 : decode cX5_cell 108 = .ok (.bipush (-2), 2) := by decide +kernel
theorem dX5_cell_110 : decode cX5_cell 110 = .ok (.ireturn, 1) := by decide +kernel
theorem dX5_well_0 : decode cX5_well 0 = .ok (.aload_n 0, 1) := by decide +kernel
theorem dX5_well_1 : decode cX5_well 1 = .ok (.getfield 12, 3) := by decide +kernel
theorem dX5_well_4 : decode cX5_well 4 = .ok (.getfield 63, 3) := by decide +kernel
theorem dX5_well_7 : decode cX5_well 7 = .ok (.iload_n 1, 1) := by decide +kernel
theorem dX5_well_8 : decode cX5_well 8 = .ok (.iload_n 2, 1) := by decide +kernel
theorem dX5_well_9 : decode cX5_well 9 = .ok (.invokevirtual 153, 3) := by decide +kernel
theorem dX5_well_12 : decode cX5_well 12 = .ok (.ireturn, 1) := by decide +kernel
theorem dX5_reach_0 : decode cX5_reach 0 = .ok (.aload_n 0, 1) := by decide +kernel
theorem dX5_reach_1 : decode cX5_reach 1 = .ok (.getfield 12, 3) := by decide +kernel
theorem dX5_reach_4 : decode cX5_reach 4 = .ok (.getfield 40, 3) := by decide +kernel
theorem dX5_reach_7 : decode cX5_reach 7 = .ok (.invokevirtual 156, 3) := by decide +kernel
theorem dX5_reach_10 : decode cX5_reach 10 = .ok (.ireturn, 1) := by decide +kernel
theorem dX5_mark_0 : decode cX5_mark 0 = .ok (.iload_n 1, 1) := by decide +kernel
theorem dX5_mark_1 : decode cX5_mark 1 = .ok (.invokestatic 134, 3) := by decide +kernel
theorem dX5_mark_4 : decode cX5_mark 4 = .ok (.ifCond .ne 5, 3) := by decide +kernel
theorem dX5_mark_7 : decode cX5_mark 7 = .ok (.iconst (-1), 1) := by decide +kernel
theorem dX5_mark_8 : decode cX5_mark 8 = .ok (.ireturn, 1) := by decide +kernel
theorem dX5_mark_9 : decode cX5_mark 9 = .ok (.iload_n 2, 1) := by decide +kernel
theorem dX5_mark_10 : decode cX5_mark 10 = .ok (.invokestatic 159, 3) := by decide +kernel
theorem dX5_mark_13 : decode cX5_mark 13 = .ok (.ifCond .ne 6, 3) := by decide +kernel
theorem dX5_mark_16 : decode cX5_mark 16 = .ok (.bipush (-2), 2) := by decide +kernel
theorem dX5_mark_18 : decode cX5_mark 18 = .ok (.ireturn, 1) := by decide +kernel
theorem dX5_mark_19 : decode cX5_mark 19 = .ok (.aload_n 0, 1) := by decide +kernel
theorem dX5_mark_20 : decode cX5_mark 20 = .ok (.getfield 12, 3) := by decide +kernel
theorem dX5_mark_23 : decode cX5_mark 23 = .ok (.getfield 40, 3) := by decide +kernel
theorem dX5_mark_26 : decode cX5_mark 26 = .ok (.iload_n 1, 1) := by decide +kernel
theorem dX5_mark_27 : decode cX5_mark 27 = .ok (.aload_n 0, 1) := by decide +kernel
theorem dX5_mark_28 : decode cX5_mark 28 = .ok (.getfield 12, 3) := by decide +kernel
theorem dX5_mark_31 : decode cX5_mark 31 = .ok (.iload_n 2, 1) := by decide +kernel
theorem dX5_mark_32 : decode cX5_mark 32 = .ok (.invokevirtual 162, 3) := by decide +kernel
theorem dX5_mark_35 : decode cX5_mark 35 = .ok (.aload_n 0, 1) := by decide +kernel
theorem dX5_mark_36 : decode cX5_mark 36 = .ok (.getfield 12, 3) := by decide +kernel
theorem dX5_mark_39 : decode cX5_mark 39 = .ok (.invokevirtual 165, 3) := by decide +kernel
theorem dX5_mark_42 : decode cX5_mark 42 = .ok (.invokevirtual 168, 3) := by decide +kernel
theorem dX5_mark_45 : decode cX5_mark 45 = .ok (.ireturn, 1) := by decide +kernel
theorem dX5_stopCell_0 : decode cX5_stopCell 0 = .ok (.iload_n 1, 1) := by decide +kernel
theorem dX5_stopCell_1 : decode cX5_stopCell 1 = .ok (.invokestatic 159, 3) := by decide +kernel
theorem dX5_stopCell_4 : decode cX5_stopCell 4 = .ok (.ifCond .ne 6, 3) := by decide +kernel
theorem dX5_stopCell_7 : decode cX5_stopCell 7 = .ok (.bipush (-2), 2) := by decide +kernel
theorem dX5_stopCell_9 : decode cX5_stopCell 9 = .ok (.ireturn, 1) := by decide +kernel
theorem dX5_stopCell_10 : decode cX5_stopCell 10 = .ok (.aload_n 0, 1) := by decide +kernel
theorem dX5_stopCell_11 : decode cX5_stopCell 11 = .ok (.getfield 12, 3) := by decide +kernel
theorem dX5_stopCell_14 : decode cX5_stopCell 14 = .ok (.getfield 40, 3) := by decide +kernel
theorem dX5_stopCell_17 : decode cX5_stopCell 17 = .ok (.aload_n 0, 1) := by decide +kernel
theorem dX5_stopCell_18 : decode cX5_stopCell 18 = .ok (.getfield 12, 3) := by decide +kernel
theorem dX5_stopCell_21 : decode cX5_stopCell 21 = .ok (.iload_n 1, 1) := by decide +kernel
theorem dX5_stopCell_22 : decode cX5_stopCell 22 = .ok (.invokevirtual 162, 3) := by decide +kernel
theorem dX5_stopCell_25 : decode cX5_stopCell 25 = .ok (.aload_n 0, 1) := by decide +kernel
theorem dX5_stopCell_26 : decode cX5_stopCell 26 = .ok (.getfield 12, 3) := by decide +kernel
theorem dX5_stopCell_29 : decode cX5_stopCell 29 = .ok (.invokevirtual 165, 3) := by decide +kernel
theorem dX5_stopCell_32 : decode cX5_stopCell 32 = .ok (.invokevirtual 172, 3) := by decide +kernel
theorem dX5_stopCell_35 : decode cX5_stopCell 35 = .ok (.istore_n 2, 1) := by decide +kernel
theorem dX5_stopCell_36 : decode cX5_stopCell 36 = .ok (.iload_n 2, 1) := by decide +kernel
theorem dX5_stopCell_37 : decode cX5_stopCell 37 = .ok (.bipush 40, 2) := by decide +kernel
theorem dX5_stopCell_39 : decode cX5_stopCell 39 = .ok (.if_icmp .ge 7, 3) := by decide +kernel
theorem dX5_stopCell_42 : decode cX5_stopCell 42 = .ok (.iload_n 2, 1) := by decide +kernel
theorem dX5_stopCell_43 : decode cX5_stopCell 43 = .ok (.goto 5, 3) := by decide +kernel
theorem dX5_stopCell_46 : decode cX5_stopCell 46 = .ok (.bipush (-5), 2) := by decide +kernel
theorem dX5_stopCell_48 : decode cX5_stopCell 48 = .ok (.ireturn, 1) := by decide +kernel
theorem dX5_reason_0 : decode cX5_reason 0 = .ok (.iload_n 1, 1) := by decide +kernel
theorem dX5_reason_1 : decode cX5_reason 1 = .ok (.invokestatic 134, 3) := by decide +kernel
theorem dX5_reason_4 : decode cX5_reason 4 = .ok (.ifCond .ne 5, 3) := by decide +kernel
theorem dX5_reason_7 : decode cX5_reason 7 = .ok (.iconst (-1), 1) := by decide +kernel
theorem dX5_reason_8 : decode cX5_reason 8 = .ok (.ireturn, 1) := by decide +kernel
theorem dX5_reason_9 : decode cX5_reason 9 = .ok (.iload_n 2, 1) := by decide +kernel
theorem dX5_reason_10 : decode cX5_reason 10 = .ok (.invokestatic 159, 3) := by decide +kernel
theorem dX5_reason_13 : decode cX5_reason 13 = .ok (.ifCond .ne 6, 3) := by decide +kernel
theorem dX5_reason_16 : decode cX5_reason 16 = .ok (.bipush (-2), 2) := by decide +kernel
theorem dX5_reason_18 : decode cX5_reason 18 = .ok (.ireturn, 1) := by decide +kernel
theorem dX5_reason_19 : decode cX5_reason 19 = .ok (.aload_n 0, 1) := by decide +kernel
theorem dX5_reason_20 : decode cX5_reason 20 = .ok (.getfield 12, 3) := by decide +kernel
theorem dX5_reason_23 : decode cX5_reason 23 = .ok (.getfield 40, 3) := by decide +kernel
theorem dX5_reason_26 : decode cX5_reason 26 = .ok (.iload_n 1, 1) := by decide +kernel
theorem dX5_reason_27 : decode cX5_reason 27 = .ok (.aload_n 0, 1) := by decide +kernel
theorem dX5_reason_28 : decode cX5_reason 28 = .ok (.getfield 12, 3) := by decide +kernel
theorem dX5_reason_31 : decode cX5_reason 31 = .ok (.iload_n 2, 1) := by decide +kernel
theorem dX5_reason_32 : decode cX5_reason 32 = .ok (.invokevirtual 162, 3) := by decide +kernel
theorem dX5_reason_35 : decode cX5_reason 35 = .ok (.aload_n 0, 1) := by decide +kernel
theorem dX5_reason_36 : decode cX5_reason 36 = .ok (.getfield 12, 3) := by decide +kernel
theorem dX5_reason_39 : decode cX5_reason 39 = .ok (.invokevirtual 165, 3) := by decide +kernel
theorem dX5_reason_42 : decode cX5_reason 42 = .ok (.invokevirtual 175, 3) := by decide +kernel
theorem dX5_reason_45 : decode cX5_reason 45 = .ok (.ireturn, 1) := by decide +kernel
theorem dX5_restsIn_0 : decode cX5_restsIn 0 = .ok (.aload_n 0, 1) := by decide +kernel
theorem dX5_restsIn_1 : decode cX5_restsIn 1 = .ok (.getfield 12, 3) := by decide +kernel
theorem dX5_restsIn_4 : decode cX5_restsIn 4 = .ok (.getfield 63, 3) := by decide +kernel
theorem dX5_restsIn_7 : decode cX5_restsIn 7 = .ok (.iload_n 1, 1) := by decide +kernel
theorem dX5_restsIn_8 : decode cX5_restsIn 8 = .ok (.invokevirtual 178, 3) := by decide +kernel
theorem dX5_restsIn_11 : decode cX5_restsIn 11 = .ok (.ifCond .ne 5, 3) := by decide +kernel
theorem dX5_restsIn_14 : decode cX5_restsIn 14 = .ok (.iconst (-1), 1) := by decide +kernel
theorem dX5_restsIn_15 : decode cX5_restsIn 15 = .ok (.ireturn, 1) := by decide +kernel
theorem dX5_restsIn_16 : decode cX5_restsIn 16 = .ok (.iload_n 2, 1) := by decide +kernel
theorem dX5_restsIn_17 : decode cX5_restsIn 17 = .ok (.invokestatic 159, 3) := by decide +kernel
theorem dX5_restsIn_20 : decode cX5_restsIn 20 = .ok (.ifCond .ne 6, 3) := by decide +kernel
theorem dX5_restsIn_23 : decode cX5_restsIn 23 = .ok (.bipush (-2), 2) := by decide +kernel
theorem dX5_restsIn_25 : decode cX5_restsIn 25 = .ok (.ireturn, 1) := by decide +kernel
theorem dX5_restsIn_26 : decode cX5_restsIn 26 = .ok (.aload_n 0, 1) := by decide +kernel
theorem dX5_restsIn_27 : decode cX5_restsIn 27 = .ok (.getfield 12, 3) := by decide +kernel
theorem dX5_restsIn_30 : decode cX5_restsIn 30 = .ok (.getfield 63, 3) := by decide +kernel
theorem dX5_restsIn_33 : decode cX5_restsIn 33 = .ok (.iload_n 1, 1) := by decide +kernel
theorem dX5_restsIn_34 : decode cX5_restsIn 34 = .ok (.invokevirtual 181, 3) := by decide +kernel
theorem dX5_restsIn_37 : decode cX5_restsIn 37 = .ok (.ifCond .eq 6, 3) := by decide +kernel
theorem dX5_restsIn_40 : decode cX5_restsIn 40 = .ok (.bipush (-4), 2) := by decide +kernel
theorem dX5_restsIn_42 : decode cX5_restsIn 42 = .ok (.ireturn, 1) := by decide +kernel
theorem dX5_restsIn_43 : decode cX5_restsIn 43 = .ok (.aload_n 0, 1) := by decide +kernel
theorem dX5_restsIn_44 : decode cX5_restsIn 44 = .ok (.getfield 16, 3) := by decide +kernel
theorem dX5_restsIn_47 : decode cX5_restsIn 47 = .ok (.aload_n 0, 1) := by decide +kernel
theorem dX5_restsIn_48 : decode cX5_restsIn 48 = .ok (.getfield 12, 3) := by decide +kernel
theorem dX5_restsIn_51 : decode cX5_restsIn 51 = .ok (.invokevirtual 36, 3) := by decide +kernel
theorem dX5_restsIn_54 : decode cX5_restsIn 54 = .ok (.iconst 1, 1) := by decide +kernel
theorem dX5_restsIn_55 : decode cX5_restsIn 55 = .ok (.istore_n 3, 1) := by decide +kernel
theorem dX5_restsIn_56 : decode cX5_restsIn 56 = .ok (.iload_n 3, 1) := by decide +kernel
theorem dX5_restsIn_57 : decode cX5_restsIn 57 = .ok (.sipush 300, 3) := by decide +kernel
theorem dX5_restsIn_60 : decode cX5_restsIn 60 = .ok (.if_icmp .gt 33, 3) := by decide +kernel
theorem dX5_restsIn_63 : decode cX5_restsIn 63 = .ok (.aload_n 0, 1) := by decide +kernel
theorem dX5_restsIn_64 : decode cX5_restsIn 64 = .ok (.getfield 16, 3) := by decide +kernel
theorem dX5_restsIn_67 : decode cX5_restsIn 67 = .ok (.iload_n 2, 1) := by decide +kernel
theorem dX5_restsIn_68 : decode cX5_restsIn 68 = .ok (.invokevirtual 184, 3) := by decide +kernel
theorem dX5_restsIn_71 : decode cX5_restsIn 71 = .ok (.aload_n 0, 1) := by decide +kernel
theorem dX5_restsIn_72 : decode cX5_restsIn 72 = .ok (.getfield 16, 3) := by decide +kernel
theorem dX5_restsIn_75 : decode cX5_restsIn 75 = .ok (.getfield 63, 3) := by decide +kernel
theorem dX5_restsIn_78 : decode cX5_restsIn 78 = .ok (.iload_n 1, 1) := by decide +kernel
theorem dX5_restsIn_79 : decode cX5_restsIn 79 = .ok (.invokevirtual 181, 3) := by decide +kernel
theorem dX5_restsIn_82 : decode cX5_restsIn 82 = .ok (.ifCond .eq 5, 3) := by decide +kernel
theorem dX5_restsIn_85 : decode cX5_restsIn 85 = .ok (.iload_n 3, 1) := by decide +kernel
theorem dX5_restsIn_86 : decode cX5_restsIn 86 = .ok (.ireturn, 1) := by decide +kernel
theorem dX5_restsIn_87 : decode cX5_restsIn 87 = .ok (.iinc 3 1, 3) := by decide +kernel
theorem dX5_restsIn_90 : decode cX5_restsIn 90 = .ok (.goto (-34), 3) := by decide +kernel
theorem dX5_restsIn_93 : decode cX5_restsIn 93 = .ok (.bipush (-5), 2) := by decide +kernel
theorem dX5_restsIn_95 : decode cX5_restsIn 95 = .ok (.ireturn, 1) := by decide +kernel
theorem dX5_leastFlow_0 : decode cX5_leastFlow 0 = .ok (.iload_n 1, 1) := by decide +kernel
theorem dX5_leastFlow_1 : decode cX5_leastFlow 1 = .ok (.invokestatic 134, 3) := by decide +kernel
theorem dX5_leastFlow_4 : decode cX5_leastFlow 4 = .ok (.ifCond .ne 5, 3) := by decide +kernel
theorem dX5_leastFlow_7 : decode cX5_leastFlow 7 = .ok (.iconst (-1), 1) := by decide +kernel
theorem dX5_leastFlow_8 : decode cX5_leastFlow 8 = .ok (.ireturn, 1) := by decide +kernel
theorem dX5_leastFlow_9 : decode cX5_leastFlow 9 = .ok (.iload_n 2, 1) := by decide +kernel
theorem dX5_leastFlow_10 : decode cX5_leastFlow 10 = .ok (.invokestatic 159, 3) := by decide +kernel
theorem dX5_leastFlow_13 : decode cX5_leastFlow 13 = .ok (.ifCond .ne 6, 3) := by decide +kernel
theorem dX5_leastFlow_16 : decode cX5_leastFlow 16 = .ok (.bipush (-2), 2) := by decide +kernel
theorem dX5_leastFlow_18 : decode cX5_leastFlow 18 = .ok (.ireturn, 1) := by decide +kernel
theorem dX5_leastFlow_19 : decode cX5_leastFlow 19 = .ok (.aload_n 0, 1) := by decide +kernel
theorem dX5_leastFlow_20 : decode cX5_leastFlow 20 = .ok (.getfield 12, 3) := by decide +kernel
theorem dX5_leastFlow_23 : decode cX5_leastFlow 23 = .ok (.iload_n 1, 1) := by decide +kernel
theorem dX5_leastFlow_24 : decode cX5_leastFlow 24 = .ok (.iload_n 2, 1) := by decide +kernel
theorem dX5_leastFlow_25 : decode cX5_leastFlow 25 = .ok (.invokevirtual 188, 3) := by decide +kernel
theorem dX5_leastFlow_28 : decode cX5_leastFlow 28 = .ok (.ireturn, 1) := by decide +kernel
theorem dX5_bestSill_0 : decode cX5_bestSill 0 = .ok (.iload_n 1, 1) := by decide +kernel
theorem dX5_bestSill_1 : decode cX5_bestSill 1 = .ok (.iconst 1, 1) := by decide +kernel
theorem dX5_bestSill_2 : decode cX5_bestSill 2 = .ok (.if_icmp .lt 16, 3) := by decide +kernel
theorem dX5_bestSill_5 : decode cX5_bestSill 5 = .ok (.iload_n 1, 1) := by decide +kernel
theorem dX5_bestSill_6 : decode cX5_bestSill 6 = .ok (.bipush 60, 2) := by decide +kernel
theorem dX5_bestSill_8 : decode cX5_bestSill 8 = .ok (.if_icmp .gt 10, 3) := by decide +kernel
theorem dX5_bestSill_11 : decode cX5_bestSill 11 = .ok (.iload_n 2, 1) := by decide +kernel
theorem dX5_bestSill_12 : decode cX5_bestSill 12 = .ok (.invokestatic 159, 3) := by decide +kernel
theorem dX5_bestSill_15 : decode cX5_bestSill 15 = .ok (.ifCond .ne 6, 3) := by decide +kernel
theorem dX5_bestSill_18 : decode cX5_bestSill 18 = .ok (.bipush (-2), 2) := by decide +kernel
theorem dX5_bestSill_20 : decode cX5_bestSill 20 = .ok (.ireturn, 1) := by decide +kernel
theorem dX5_bestSill_21 : decode cX5_bestSill 21 = .ok (.aload_n 0, 1) := by decide +kernel
theorem dX5_bestSill_22 : decode cX5_bestSill 22 = .ok (.getfield 12, 3) := by decide +kernel
theorem dX5_bestSill_25 : decode cX5_bestSill 25 = .ok (.getfield 40, 3) := by decide +kernel
theorem dX5_bestSill_28 : decode cX5_bestSill 28 = .ok (.iload_n 1, 1) := by decide +kernel
theorem dX5_bestSill_29 : decode cX5_bestSill 29 = .ok (.aload_n 0, 1) := by decide +kernel
theorem dX5_bestSill_30 : decode cX5_bestSill 30 = .ok (.getfield 12, 3) := by decide +kernel
theorem dX5_bestSill_33 : decode cX5_bestSill 33 = .ok (.iload_n 2, 1) := by decide +kernel
theorem dX5_bestSill_34 : decode cX5_bestSill 34 = .ok (.invokevirtual 162, 3) := by decide +kernel
theorem dX5_bestSill_37 : decode cX5_bestSill 37 = .ok (.aload_n 0, 1) := by decide +kernel
theorem dX5_bestSill_38 : decode cX5_bestSill 38 = .ok (.getfield 12, 3) := by decide +kernel
theorem dX5_bestSill_41 : decode cX5_bestSill 41 = .ok (.invokevirtual 165, 3) := by decide +kernel
theorem dX5_bestSill_44 : decode cX5_bestSill 44 = .ok (.invokevirtual 191, 3) := by decide +kernel
theorem dX5_bestSill_47 : decode cX5_bestSill 47 = .ok (.ireturn, 1) := by decide +kernel
theorem dX5_count_0 : decode cX5_count 0 = .ok (.iload_n 1, 1) := by decide +kernel
theorem dX5_count_1 : decode cX5_count 1 = .ok (.tableswitch 237 0 13 #[71, 79, 87, 98, 109, 120, 141, 162, 183, 191, 201, 211, 221, 229], 71) := by decide +kernel
theorem dX5_count_72 : decode cX5_count 72 = .ok (.aload_n 0, 1) := by decide +kernel
theorem dX5_count_73 : decode cX5_count 73 = .ok (.getfield 12, 3) := by decide +kernel
theorem dX5_count_76 : decode cX5_count 76 = .ok (.getfield 131, 3) := by decide +kernel
theorem dX5_count_79 : decode cX5_count 79 = .ok (.ireturn, 1) := by decide +kernel
theorem dX5_count_80 : decode cX5_count 80 = .ok (.aload_n 0, 1) := by decide +kernel
theorem dX5_count_81 : decode cX5_count 81 = .ok (.getfield 12, 3) := by decide +kernel
theorem dX5_count_84 : decode cX5_count 84 = .ok (.getfield 194, 3) := by decide +kernel
theorem dX5_count_87 : decode cX5_count 87 = .ok (.ireturn, 1) := by decide +kernel
theorem dX5_count_88 : decode cX5_count 88 = .ok (.aload_n 0, 1) := by decide +kernel
theorem dX5_count_89 : decode cX5_count 89 = .ok (.getfield 12, 3) := by decide +kernel
theorem dX5_count_92 : decode cX5_count 92 = .ok (.getfield 40, 3) := by decide +kernel
theorem dX5_count_95 : decode cX5_count 95 = .ok (.invokevirtual 197, 3) := by decide +kernel
theorem dX5_count_98 : decode cX5_count 98 = .ok (.ireturn, 1) := by decide +kernel
theorem dX5_count_99 : decode cX5_count 99 = .ok (.aload_n 0, 1) := by decide +kernel
theorem dX5_count_100 : decode cX5_count 100 = .ok (.getfield 12, 3) := by decide +kernel
theorem dX5_count_103 : decode cX5_count 103 = .ok (.getfield 40, 3) := by decide +kernel
theorem dX5_count_106 : decode cX5_count 106 = .ok (.invokevirtual 200, 3) := by decide +kernel
theorem dX5_count_109 : decode cX5_count 109 = .ok (.ireturn, 1) := by decide +kernel
theorem dX5_count_110 : decode cX5_count 110 = .ok (.aload_n 0, 1) := by decide +kernel
theorem dX5_count_111 : decode cX5_count 111 = .ok (.getfield 12, 3) := by decide +kernel
theorem dX5_count_114 : decode cX5_count 114 = .ok (.getfield 63, 3) := by decide +kernel
theorem dX5_count_117 : decode cX5_count 117 = .ok (.getfield 203, 3) := by decide +kernel
theorem dX5_count_120 : decode cX5_count 120 = .ok (.ireturn, 1) := by decide +kernel
theorem dX5_count_121 : decode cX5_count 121 = .ok (.aload_n 0, 1) := by decide +kernel
theorem dX5_count_122 : decode cX5_count 122 = .ok (.getfield 12, 3) := by decide +kernel
theorem dX5_count_125 : decode cX5_count 125 = .ok (.getfield 63, 3) := by decide +kernel
theorem dX5_count_128 : decode cX5_count 128 = .ok (.aload_n 0, 1) := by decide +kernel
theorem dX5_count_129 : decode cX5_count 129 = .ok (.getfield 12, 3) := by decide +kernel
theorem dX5_count_132 : decode cX5_count 132 = .ok (.getfield 63, 3) := by decide +kernel
theorem dX5_count_135 : decode cX5_count 135 = .ok (.getfield 206, 3) := by decide +kernel
theorem dX5_count_138 : decode cX5_count 138 = .ok (.invokevirtual 209, 3) := by decide +kernel
theorem dX5_count_141 : decode cX5_count 141 = .ok (.ireturn, 1) := by decide +kernel
theorem dX5_count_142 : decode cX5_count 142 = .ok (.aload_n 0, 1) := by decide +kernel
theorem dX5_count_143 : decode cX5_count 143 = .ok (.getfield 12, 3) := by decide +kernel
theorem dX5_count_146 : decode cX5_count 146 = .ok (.getfield 63, 3) := by decide +kernel
theorem dX5_count_149 : decode cX5_count 149 = .ok (.aload_n 0, 1) := by decide +kernel
theorem dX5_count_150 : decode cX5_count 150 = .ok (.getfield 12, 3) := by decide +kernel
theorem dX5_count_153 : decode cX5_count 153 = .ok (.getfield 63, 3) := by decide +kernel
theorem dX5_count_156 : decode cX5_count 156 = .ok (.getfield 213, 3) := by decide +kernel
theorem dX5_count_159 : decode cX5_count 159 = .ok (.invokevirtual 209, 3) := by decide +kernel
theorem dX5_count_162 : decode cX5_count 162 = .ok (.ireturn, 1) := by decide +kernel
theorem dX5_count_163 : decode cX5_count 163 = .ok (.aload_n 0, 1) := by decide +kernel
theorem dX5_count_164 : decode cX5_count 164 = .ok (.getfield 12, 3) := by decide +kernel
theorem dX5_count_167 : decode cX5_count 167 = .ok (.getfield 63, 3) := by decide +kernel
theorem dX5_count_170 : decode cX5_count 170 = .ok (.aload_n 0, 1) := by decide +kernel
theorem dX5_count_171 : decode cX5_count 171 = .ok (.getfield 12, 3) := by decide +kernel
theorem dX5_count_174 : decode cX5_count 174 = .ok (.getfield 63, 3) := by decide +kernel
theorem dX5_count_177 : decode cX5_count 177 = .ok (.getfield 216, 3) := by decide +kernel
theorem dX5_count_180 : decode cX5_count 180 = .ok (.invokevirtual 209, 3) := by decide +kernel
theorem dX5_count_183 : decode cX5_count 183 = .ok (.ireturn, 1) := by decide +kernel
theorem dX5_count_184 : decode cX5_count 184 = .ok (.aload_n 0, 1) := by decide +kernel
theorem dX5_count_185 : decode cX5_count 185 = .ok (.getfield 12, 3) := by decide +kernel
theorem dX5_count_188 : decode cX5_count 188 = .ok (.getfield 219, 3) := by decide +kernel
theorem dX5_count_191 : decode cX5_count 191 = .ok (.ireturn, 1) := by decide +kernel
theorem dX5_count_192 : decode cX5_count 192 = .ok (.aload_n 0, 1) := by decide +kernel
theorem dX5_count_193 : decode cX5_count 193 = .ok (.getfield 12, 3) := by decide +kernel
theorem dX5_count_196 : decode cX5_count 196 = .ok (.getfield 222, 3) := by decide +kernel
theorem dX5_count_199 : decode cX5_count 199 = .ok (.iconst 0, 1) := by decide +kernel
theorem dX5_count_200 : decode cX5_count 200 = .ok (.iaload, 1) := by decide +kernel
theorem dX5_count_201 : decode cX5_count 201 = .ok (.ireturn, 1) := by decide +kernel
theorem dX5_count_202 : decode cX5_count 202 = .ok (.aload_n 0, 1) := by decide +kernel
theorem dX5_count_203 : decode cX5_count 203 = .ok (.getfield 12, 3) := by decide +kernel
theorem dX5_count_206 : decode cX5_count 206 = .ok (.getfield 222, 3) := by decide +kernel
theorem dX5_count_209 : decode cX5_count 209 = .ok (.iconst 1, 1) := by decide +kernel
theorem dX5_count_210 : decode cX5_count 210 = .ok (.iaload, 1) := by decide +kernel
theorem dX5_count_211 : decode cX5_count 211 = .ok (.ireturn, 1) := by decide +kernel
theorem dX5_count_212 : decode cX5_count 212 = .ok (.aload_n 0, 1) := by decide +kernel
theorem dX5_count_213 : decode cX5_count 213 = .ok (.getfield 12, 3) := by decide +kernel
theorem dX5_count_216 : decode cX5_count 216 = .ok (.getfield 222, 3) := by decide +kernel
theorem dX5_count_219 : decode cX5_count 219 = .ok (.iconst 2, 1) := by decide +kernel
theorem dX5_count_220 : decode cX5_count 220 = .ok (.iaload, 1) := by decide +kernel
theorem dX5_count_221 : decode cX5_count 221 = .ok (.ireturn, 1) := by decide +kernel
theorem dX5_count_222 : decode cX5_count 222 = .ok (.aload_n 0, 1) := by decide +kernel
theorem dX5_count_223 : decode cX5_count 223 = .ok (.getfield 25, 3) := by decide +kernel
theorem dX5_count_226 : decode cX5_count 226 = .ok (.getfield 125, 3) := by decide +kernel
theorem dX5_count_229 : decode cX5_count 229 = .ok (.ireturn, 1) := by decide +kernel
theorem dX5_count_230 : decode cX5_count 230 = .ok (.aload_n 0, 1) := by decide +kernel
theorem dX5_count_231 : decode cX5_count 231 = .ok (.getfield 32, 3) := by decide +kernel
theorem dX5_count_234 : decode cX5_count 234 = .ok (.getfield 225, 3) := by decide +kernel
theorem dX5_count_237 : decode cX5_count 237 = .ok (.ireturn, 1) := by decide +kernel
theorem dX5_count_238 : decode cX5_count 238 = .ok (.bipush (-2), 2) := by decide +kernel
theorem dX5_count_240 : decode cX5_count 240 = .ok (.ireturn, 1) := by decide +kernel
theorem dX5_recorded_0 : decode cX5_recorded 0 = .ok (.iload_n 1, 1) := by decide +kernel
theorem dX5_recorded_1 : decode cX5_recorded 1 = .ok (.ifCond .lt 14, 3) := by decide +kernel
theorem dX5_recorded_4 : decode cX5_recorded 4 = .ok (.aload_n 0, 1) := by decide +kernel
theorem dX5_recorded_5 : decode cX5_recorded 5 = .ok (.getfield 25, 3) := by decide +kernel
theorem dX5_recorded_8 : decode cX5_recorded 8 = .ok (.aload_n 0, 1) := by decide +kernel
theorem dX5_recorded_9 : decode cX5_recorded 9 = .ok (.getfield 16, 3) := by decide +kernel
theorem dX5_recorded_12 : decode cX5_recorded 12 = .ok (.invokevirtual 228, 3) := by decide +kernel
theorem dX5_recorded_15 : decode cX5_recorded 15 = .ok (.iload_n 1, 1) := by decide +kernel
theorem dX5_recorded_16 : decode cX5_recorded 16 = .ok (.ireturn, 1) := by decide +kernel
theorem dX5_isCell_0 : decode cX5_isCell 0 = .ok (.iload_n 0, 1) := by decide +kernel
theorem dX5_isCell_1 : decode cX5_isCell 1 = .ok (.ifCond .lt 13, 3) := by decide +kernel
theorem dX5_isCell_4 : decode cX5_isCell 4 = .ok (.iload_n 0, 1) := by decide +kernel
theorem dX5_isCell_5 : decode cX5_isCell 5 = .ok (.bipush 40, 2) := by decide +kernel
theorem dX5_isCell_7 : decode cX5_isCell 7 = .ok (.if_icmp .ge 7, 3) := by decide +kernel
theorem dX5_isCell_10 : decode cX5_isCell 10 = .ok (.iconst 1, 1) := by decide +kernel
theorem dX5_isCell_11 : decode cX5_isCell 11 = .ok (.goto 4, 3) := by decide +kernel
theorem dX5_isCell_14 : decode cX5_isCell 14 = .ok (.iconst 0, 1) := by decide +kernel
theorem dX5_isCell_15 : decode cX5_isCell 15 = .ok (.ireturn, 1) := by decide +kernel
theorem dX5_isRise_0 : decode cX5_isRise 0 = .ok (.iload_n 0, 1) := by decide +kernel
theorem dX5_isRise_1 : decode cX5_isRise 1 = .ok (.bipush (-30), 2) := by decide +kernel
theorem dX5_isRise_3 : decode cX5_isRise 3 = .ok (.if_icmp .lt 13, 3) := by decide +kernel
theorem dX5_isRise_6 : decode cX5_isRise 6 = .ok (.iload_n 0, 1) := by decide +kernel
theorem dX5_isRise_7 : decode cX5_isRise 7 = .ok (.bipush 30, 2) := by decide +kernel
theorem dX5_isRise_9 : decode cX5_isRise 9 = .ok (.if_icmp .gt 7, 3) := by decide +kernel
theorem dX5_isRise_12 : decode cX5_isRise 12 = .ok (.iconst 1, 1) := by decide +kernel
theorem dX5_isRise_13 : decode cX5_isRise 13 = .ok (.goto 4, 3) := by decide +kernel
theorem dX5_isRise_16 : decode cX5_isRise 16 = .ok (.iconst 0, 1) := by decide +kernel
theorem dX5_isRise_17 : decode cX5_isRise 17 = .ok (.ireturn, 1) := by decide +kernel
theorem dJ9_max_7cf53_0 : decode cJ9_max_7cf53 0 = .ok (.iload_n 0, 1) := by decide +kernel
theorem dJ9_max_7cf53_1 : decode cJ9_max_7cf53 1 = .ok (.iload_n 1, 1) := by decide +kernel
theorem dJ9_max_7cf53_2 : decode cJ9_max_7cf53 2 = .ok (.if_icmp .lt 7, 3) := by decide +kernel
theorem dJ9_max_7cf53_5 : decode cJ9_max_7cf53 5 = .ok (.iload_n 0, 1) := by decide +kernel
theorem dJ9_max_7cf53_6 : decode cJ9_max_7cf53 6 = .ok (.goto 4, 3) := by decide +kernel
theorem dJ9_max_7cf53_9 : decode cJ9_max_7cf53 9 = .ok (.iload_n 1, 1) := by decide +kernel
theorem dJ9_max_7cf53_10 : decode cJ9_max_7cf53 10 = .ok (.ireturn, 1) := by decide +kernel
theorem dJ9_min_7cf53_0 : decode cJ9_min_7cf53 0 = .ok (.iload_n 0, 1) := by decide +kernel
theorem dJ9_min_7cf53_1 : decode cJ9_min_7cf53 1 = .ok (.iload_n 1, 1) := by decide +kernel
theorem dJ9_min_7cf53_2 : decode cJ9_min_7cf53 2 = .ok (.if_icmp .gt 7, 3) := by decide +kernel
theorem dJ9_min_7cf53_5 : decode cJ9_min_7cf53 5 = .ok (.iload_n 0, 1) := by decide +kernel
theorem dJ9_min_7cf53_6 : decode cJ9_min_7cf53 6 = .ok (.goto 4, 3) := by decide +kernel
theorem dJ9_min_7cf53_9 : decode cJ9_min_7cf53 9 = .ok (.iload_n 1, 1) := by decide +kernel
theorem dJ9_min_7cf53_10 : decode cJ9_min_7cf53 10 = .ok (.ireturn, 1) := by decide +kernel
theorem dJ7_fill_53178_0 : decode cJ7_fill_53178 0 = .ok (.iconst 0, 1) := by decide +kernel
theorem dJ7_fill_53178_1 : decode cJ7_fill_53178 1 = .ok (.istore_n 2, 1) := by decide +kernel
theorem dJ7_fill_53178_2 : decode cJ7_fill_53178 2 = .ok (.aload_n 0, 1) := by decide +kernel
theorem dJ7_fill_53178_3 : decode cJ7_fill_53178 3 = .ok (.arraylength, 1) := by decide +kernel
theorem dJ7_fill_53178_4 : decode cJ7_fill_53178 4 = .ok (.istore_n 3, 1) := by decide +kernel
theorem dJ7_fill_53178_5 : decode cJ7_fill_53178 5 = .ok (.iload_n 2, 1) := by decide +kernel
theorem dJ7_fill_53178_6 : decode cJ7_fill_53178 6 = .ok (.iload_n 3, 1) := by decide +kernel
theorem dJ7_fill_53178_7 : decode cJ7_fill_53178 7 = .ok (.if_icmp .ge 13, 3) := by decide +kernel
theorem dJ7_fill_53178_10 : decode cJ7_fill_53178 10 = .ok (.aload_n 0, 1) := by decide +kernel
theorem dJ7_fill_53178_11 : decode cJ7_fill_53178 11 = .ok (.iload_n 2, 1) := by decide +kernel
theorem dJ7_fill_53178_12 : decode cJ7_fill_53178 12 = .ok (.iload_n 1, 1) := by decide +kernel
theorem dJ7_fill_53178_13 : decode cJ7_fill_53178 13 = .ok (.iastore, 1) := by decide +kernel
theorem dJ7_fill_53178_14 : decode cJ7_fill_53178 14 = .ok (.iinc 2 1, 3) := by decide +kernel
theorem dJ7_fill_53178_17 : decode cJ7_fill_53178 17 = .ok (.goto (-12), 3) := by decide +kernel
theorem dJ7_fill_53178_20 : decode cJ7_fill_53178 20 = .ok (.return_, 1) := by decide +kernel
theorem dL_cell_0 : decode cL_cell 0 = .ok (.iload_n 1, 1) := by decide +kernel
theorem dL_cell_1 : decode cL_cell 1 = .ok (.aload_n 0, 1) := by decide +kernel
theorem dL_cell_2 : decode cL_cell 2 = .ok (.arraylength, 1) := by decide +kernel
theorem dL_cell_3 : decode cL_cell 3 = .ok (.if_icmp .ge 9, 3) := by decide +kernel
theorem dL_cell_6 : decode cL_cell 6 = .ok (.aload_n 0, 1) := by decide +kernel
theorem dL_cell_7 : decode cL_cell 7 = .ok (.iload_n 1, 1) := by decide +kernel
theorem dL_cell_8 : decode cL_cell 8 = .ok (.iaload, 1) := by decide +kernel
theorem dL_cell_9 : decode cL_cell 9 = .ok (.goto 12, 3) := by decide +kernel
theorem dL_cell_12 : decode cL_cell 12 = .ok (.ldc 7, 2) := by decide +kernel
theorem dL_cell_14 : decode cL_cell 14 = .ok (.iload_n 1, 1) := by decide +kernel
theorem dL_cell_15 : decode cL_cell 15 = .ok (.iconst 1, 1) := by decide +kernel
theorem dL_cell_16 : decode cL_cell 16 = .ok (.iadd, 1) := by decide +kernel
theorem dL_cell_17 : decode cL_cell 17 = .ok (.imul, 1) := by decide +kernel
theorem dL_cell_18 : decode cL_cell 18 = .ok (.ldc 8, 2) := by decide +kernel
theorem dL_cell_20 : decode cL_cell 20 = .ok (.iadd, 1) := by decide +kernel
theorem dL_cell_21 : decode cL_cell 21 = .ok (.ireturn, 1) := by decide +kernel
theorem dL_low_0 : decode cL_low 0 = .ok (.iload_n 0, 1) := by decide +kernel
theorem dL_low_1 : decode cL_low 1 = .ok (.ldc 9, 2) := by decide +kernel
theorem dL_low_3 : decode cL_low 3 = .ok (.iand, 1) := by decide +kernel
theorem dL_low_4 : decode cL_low 4 = .ok (.iload_n 1, 1) := by decide +kernel
theorem dL_low_5 : decode cL_low 5 = .ok (.irem, 1) := by decide +kernel
theorem dL_low_6 : decode cL_low 6 = .ok (.ireturn, 1) := by decide +kernel
theorem dL_act_0 : decode cL_act 0 = .ok (.iload_n 1, 1) := by decide +kernel
theorem dL_act_1 : decode cL_act 1 = .ok (.iconst 4, 1) := by decide +kernel
theorem dL_act_2 : decode cL_act 2 = .ok (.ishr, 1) := by decide +kernel
theorem dL_act_3 : decode cL_act 3 = .ok (.iload_n 1, 1) := by decide +kernel
theorem dL_act_4 : decode cL_act 4 = .ok (.bipush 10, 2) := by decide +kernel
theorem dL_act_6 : decode cL_act 6 = .ok (.ishr, 1) := by decide +kernel
theorem dL_act_7 : decode cL_act 7 = .ok (.iconst 3, 1) := by decide +kernel
theorem dL_act_8 : decode cL_act 8 = .ok (.invokestatic 10, 3) := by decide +kernel
theorem dL_act_11 : decode cL_act 11 = .ok (.ifCond .ne 8, 3) := by decide +kernel
theorem dL_act_14 : decode cL_act 14 = .ok (.bipush 40, 2) := by decide +kernel
theorem dL_act_16 : decode cL_act 16 = .ok (.goto 5, 3) := by decide +kernel
theorem dL_act_19 : decode cL_act 19 = .ok (.bipush 10, 2) := by decide +kernel
theorem dL_act_21 : decode cL_act 21 = .ok (.invokestatic 10, 3) := by decide +kernel
theorem dL_act_24 : decode cL_act 24 = .ok (.istore_n 3, 1) := by decide +kernel
theorem dL_act_25 : decode cL_act 25 = .ok (.iload_n 1, 1) := by decide +kernel
theorem dL_act_26 : decode cL_act 26 = .ok (.bipush 14, 2) := by decide +kernel
theorem dL_act_28 : decode cL_act 28 = .ok (.invokestatic 10, 3) := by decide +kernel
theorem dL_act_31 : decode cL_act 31 = .ok (.tableswitch 214 0 7 #[45, 75, 87, 98, 154, 154, 154, 168], 45) := by decide +kernel
theorem dL_act_76 : decode cL_act 76 = .ok (.aload_n 0, 1) := by decide +kernel
theorem dL_act_77 : decode cL_act 77 = .ok (.iload_n 3, 1) := by decide +kernel
theorem dL_act_78 : decode cL_act 78 = .ok (.iconst 1, 1) := by decide +kernel
theorem dL_act_79 : decode cL_act 79 = .ok (.iload_n 2, 1) := by decide +kernel
theorem dL_act_80 : decode cL_act 80 = .ok (.iload_n 2, 1) := by decide +kernel
theorem dL_act_81 : decode cL_act 81 = .ok (.bipush 9, 2) := by decide +kernel
theorem dL_act_83 : decode cL_act 83 = .ok (.ishr, 1) := by decide +kernel
theorem dL_act_84 : decode cL_act 84 = .ok (.iconst 2, 1) := by decide +kernel
theorem dL_act_85 : decode cL_act 85 = .ok (.invokestatic 10, 3) := by decide +kernel
theorem dL_act_88 : decode cL_act 88 = .ok (.ifCond .ne 8, 3) := by decide +kernel
theorem dL_act_91 : decode cL_act 91 = .ok (.bipush 60, 2) := by decide +kernel
theorem dL_act_93 : decode cL_act 93 = .ok (.goto 5, 3) := by decide +kernel
theorem dL_act_96 : decode cL_act 96 = .ok (.bipush 25, 2) := by decide +kernel
theorem dL_act_98 : decode cL_act 98 = .ok (.invokestatic 10, 3) := by decide +kernel
theorem dL_act_101 : decode cL_act 101 = .ok (.iadd, 1) := by decide +kernel
theorem dL_act_102 : decode cL_act 102 = .ok (.invokevirtual 16, 3) := by decide +kernel
theorem dL_act_105 : decode cL_act 105 = .ok (.ireturn, 1) := by decide +kernel
theorem dL_act_106 : decode cL_act 106 = .ok (.aload_n 0, 1) := by decide +kernel
theorem dL_act_107 : decode cL_act 107 = .ok (.iload_n 3, 1) := by decide +kernel
theorem dL_act_108 : decode cL_act 108 = .ok (.iload_n 2, 1) := by decide +kernel
theorem dL_act_109 : decode cL_act 109 = .ok (.bipush 22, 2) := by decide +kernel
theorem dL_act_111 : decode cL_act 111 = .ok (.invokestatic 10, 3) := by decide +kernel
theorem dL_act_114 : decode cL_act 114 = .ok (.invokevirtual 21, 3) := by decide +kernel
theorem dL_act_117 : decode cL_act 117 = .ok (.ireturn, 1) := by decide +kernel
theorem dL_act_118 : decode cL_act 118 = .ok (.aload_n 0, 1) := by decide +kernel
theorem dL_act_119 : decode cL_act 119 = .ok (.iload_n 2, 1) := by decide +kernel
theorem dL_act_120 : decode cL_act 120 = .ok (.bipush 30, 2) := by decide +kernel
theorem dL_act_122 : decode cL_act 122 = .ok (.invokestatic 10, 3) := by decide +kernel
theorem dL_act_125 : decode cL_act 125 = .ok (.invokevirtual 24, 3) := by decide +kernel
theorem dL_act_128 : decode cL_act 128 = .ok (.ireturn, 1) := by decide +kernel
theorem dL_act_129 : decode cL_act 129 = .ok (.iload_n 2, 1) := by decide +kernel
theorem dL_act_130 : decode cL_act 130 = .ok (.iconst 3, 1) := by decide +kernel
theorem dL_act_131 : decode cL_act 131 = .ok (.invokestatic 10, 3) := by decide +kernel
theorem dL_act_134 : decode cL_act 134 = .ok (.istore 4, 2) := by decide +kernel
theorem dL_act_136 : decode cL_act 136 = .ok (.aload_n 0, 1) := by decide +kernel
theorem dL_act_137 : decode cL_act 137 = .ok (.iload 4, 2) := by decide +kernel
theorem dL_act_139 : decode cL_act 139 = .ok (.iload 4, 2) := by decide +kernel
theorem dL_act_141 : decode cL_act 141 = .ok (.ifCond .ne 14, 3) := by decide +kernel
theorem dL_act_144 : decode cL_act 144 = .ok (.iload_n 2, 1) := by decide +kernel
theorem dL_act_145 : decode cL_act 145 = .ok (.iconst 2, 1) := by decide +kernel
theorem dL_act_146 : decode cL_act 146 = .ok (.ishr, 1) := by decide +kernel
theorem dL_act_147 : decode cL_act 147 = .ok (.bipush 61, 2) := by decide +kernel
theorem dL_act_149 : decode cL_act 149 = .ok (.invokestatic 10, 3) := by decide +kernel
theorem dL_act_152 : decode cL_act 152 = .ok (.goto 29, 3) := by decide +kernel
theorem dL_act_155 : decode cL_act 155 = .ok (.iload 4, 2) := by decide +kernel
theorem dL_act_157 : decode cL_act 157 = .ok (.iconst 1, 1) := by decide +kernel
theorem dL_act_158 : decode cL_act 158 = .ok (.if_icmp .ne 13, 3) := by decide +kernel
theorem dL_act_161 : decode cL_act 161 = .ok (.iload_n 2, 1) := by decide +kernel
theorem dL_act_162 : decode cL_act 162 = .ok (.iconst 2, 1) := by decide +kernel
theorem dL_act_163 : decode cL_act 163 = .ok (.ishr, 1) := by decide +kernel
theorem dL_act_164 : decode cL_act 164 = .ok (.iconst 4, 1) := by decide +kernel
theorem dL_act_165 : decode cL_act 165 = .ok (.invokestatic 10, 3) := by decide +kernel
theorem dL_act_168 : decode cL_act 168 = .ok (.goto 13, 3) := by decide +kernel
theorem dL_act_171 : decode cL_act 171 = .ok (.iconst 1, 1) := by decide +kernel
theorem dL_act_172 : decode cL_act 172 = .ok (.iload_n 2, 1) := by decide +kernel
theorem dL_act_173 : decode cL_act 173 = .ok (.iconst 2, 1) := by decide +kernel
theorem dL_act_174 : decode cL_act 174 = .ok (.ishr, 1) := by decide +kernel
theorem dL_act_175 : decode cL_act 175 = .ok (.bipush 20, 2) := by decide +kernel
theorem dL_act_177 : decode cL_act 177 = .ok (.invokestatic 10, 3) := by decide +kernel
theorem dL_act_180 : decode cL_act 180 = .ok (.iadd, 1) := by decide +kernel
theorem dL_act_181 : decode cL_act 181 = .ok (.invokevirtual 28, 3) := by decide +kernel
theorem dL_act_184 : decode cL_act 184 = .ok (.ireturn, 1) := by decide +kernel
theorem dL_act_185 : decode cL_act 185 = .ok (.aload_n 0, 1) := by decide +kernel
theorem dL_act_186 : decode cL_act 186 = .ok (.iload_n 3, 1) := by decide +kernel
theorem dL_act_187 : decode cL_act 187 = .ok (.iconst 1, 1) := by decide +kernel
theorem dL_act_188 : decode cL_act 188 = .ok (.iload_n 2, 1) := by decide +kernel
theorem dL_act_189 : decode cL_act 189 = .ok (.bipush 30, 2) := by decide +kernel
theorem dL_act_191 : decode cL_act 191 = .ok (.invokestatic 10, 3) := by decide +kernel
theorem dL_act_194 : decode cL_act 194 = .ok (.iadd, 1) := by decide +kernel
theorem dL_act_195 : decode cL_act 195 = .ok (.invokevirtual 31, 3) := by decide +kernel
theorem dL_act_198 : decode cL_act 198 = .ok (.ireturn, 1) := by decide +kernel
theorem dL_act_199 : decode cL_act 199 = .ok (.iload_n 2, 1) := by decide +kernel
theorem dL_act_200 : decode cL_act 200 = .ok (.iconst 3, 1) := by decide +kernel
theorem dL_act_201 : decode cL_act 201 = .ok (.invokestatic 10, 3) := by decide +kernel
theorem dL_act_204 : decode cL_act 204 = .ok (.ifCond .ne 18, 3) := by decide +kernel
theorem dL_act_207 : decode cL_act 207 = .ok (.aload_n 0, 1) := by decide +kernel
theorem dL_act_208 : decode cL_act 208 = .ok (.iload_n 2, 1) := by decide +kernel
theorem dL_act_209 : decode cL_act 209 = .ok (.iconst 2, 1) := by decide +kernel
theorem dL_act_210 : decode cL_act 210 = .ok (.ishr, 1) := by decide +kernel
theorem dL_act_211 : decode cL_act 211 = .ok (.bipush 6, 2) := by decide +kernel
theorem dL_act_213 : decode cL_act 213 = .ok (.invokestatic 10, 3) := by decide +kernel
theorem dL_act_216 : decode cL_act 216 = .ok (.invokevirtual 34, 3) := by decide +kernel
theorem dL_act_219 : decode cL_act 219 = .ok (.goto 25, 3) := by decide +kernel
theorem dL_act_222 : decode cL_act 222 = .ok (.aload_n 0, 1) := by decide +kernel
theorem dL_act_223 : decode cL_act 223 = .ok (.iload_n 2, 1) := by decide +kernel
theorem dL_act_224 : decode cL_act 224 = .ok (.iconst 2, 1) := by decide +kernel
theorem dL_act_225 : decode cL_act 225 = .ok (.ishr, 1) := by decide +kernel
theorem dL_act_226 : decode cL_act 226 = .ok (.bipush 6, 2) := by decide +kernel
theorem dL_act_228 : decode cL_act 228 = .ok (.invokestatic 10, 3) := by decide +kernel
theorem dL_act_231 : decode cL_act 231 = .ok (.iconst 1, 1) := by decide +kernel
theorem dL_act_232 : decode cL_act 232 = .ok (.iload_n 2, 1) := by decide +kernel
theorem dL_act_233 : decode cL_act 233 = .ok (.iconst 5, 1) := by decide +kernel
theorem dL_act_234 : decode cL_act 234 = .ok (.ishr, 1) := by decide +kernel
theorem dL_act_235 : decode cL_act 235 = .ok (.bipush 30, 2) := by decide +kernel
theorem dL_act_237 : decode cL_act 237 = .ok (.invokestatic 10, 3) := by decide +kernel
theorem dL_act_240 : decode cL_act 240 = .ok (.iadd, 1) := by decide +kernel
theorem dL_act_241 : decode cL_act 241 = .ok (.invokevirtual 37, 3) := by decide +kernel
theorem dL_act_244 : decode cL_act 244 = .ok (.ireturn, 1) := by decide +kernel
theorem dL_act_245 : decode cL_act 245 = .ok (.aload_n 0, 1) := by decide +kernel
theorem dL_act_246 : decode cL_act 246 = .ok (.iload_n 1, 1) := by decide +kernel
theorem dL_act_247 : decode cL_act 247 = .ok (.iconst 4, 1) := by decide +kernel
theorem dL_act_248 : decode cL_act 248 = .ok (.ishr, 1) := by decide +kernel
theorem dL_act_249 : decode cL_act 249 = .ok (.bipush 61, 2) := by decide +kernel
theorem dL_act_251 : decode cL_act 251 = .ok (.invokestatic 10, 3) := by decide +kernel
theorem dL_act_254 : decode cL_act 254 = .ok (.bipush 30, 2) := by decide +kernel
theorem dL_act_256 : decode cL_act 256 = .ok (.isub, 1) := by decide +kernel
theorem dL_act_257 : decode cL_act 257 = .ok (.iconst 1, 1) := by decide +kernel
theorem dL_act_258 : decode cL_act 258 = .ok (.iload_n 2, 1) := by decide +kernel
theorem dL_act_259 : decode cL_act 259 = .ok (.iload_n 2, 1) := by decide +kernel
theorem dL_act_260 : decode cL_act 260 = .ok (.bipush 8, 2) := by decide +kernel
theorem dL_act_262 : decode cL_act 262 = .ok (.ishr, 1) := by decide +kernel
theorem dL_act_263 : decode cL_act 263 = .ok (.iconst 4, 1) := by decide +kernel
theorem dL_act_264 : decode cL_act 264 = .ok (.invokestatic 10, 3) := by decide +kernel
theorem dL_act_267 : decode cL_act 267 = .ok (.ifCond .ne 8, 3) := by decide +kernel
theorem dL_act_270 : decode cL_act 270 = .ok (.bipush 60, 2) := by decide +kernel
theorem dL_act_272 : decode cL_act 272 = .ok (.goto 5, 3) := by decide +kernel
theorem dL_act_275 : decode cL_act 275 = .ok (.bipush 6, 2) := by decide +kernel
theorem dL_act_277 : decode cL_act 277 = .ok (.invokestatic 10, 3) := by decide +kernel
theorem dL_act_280 : decode cL_act 280 = .ok (.iadd, 1) := by decide +kernel
theorem dL_act_281 : decode cL_act 281 = .ok (.invokevirtual 40, 3) := by decide +kernel
theorem dL_act_284 : decode cL_act 284 = .ok (.ireturn, 1) := by decide +kernel
theorem dL_bed_0 : decode cL_bed 0 = .ok (.iconst 0, 1) := by decide +kernel
theorem dL_bed_1 : decode cL_bed 1 = .ok (.istore_n 1, 1) := by decide +kernel
theorem dL_bed_2 : decode cL_bed 2 = .ok (.iconst 0, 1) := by decide +kernel
theorem dL_bed_3 : decode cL_bed 3 = .ok (.istore_n 2, 1) := by decide +kernel
theorem dL_bed_4 : decode cL_bed 4 = .ok (.bipush (-5), 2) := by decide +kernel
theorem dL_bed_6 : decode cL_bed 6 = .ok (.istore_n 3, 1) := by decide +kernel
theorem dL_bed_7 : decode cL_bed 7 = .ok (.iconst 0, 1) := by decide +kernel
theorem dL_bed_8 : decode cL_bed 8 = .ok (.istore 4, 2) := by decide +kernel
theorem dL_bed_10 : decode cL_bed 10 = .ok (.iconst 0, 1) := by decide +kernel
theorem dL_bed_11 : decode cL_bed 11 = .ok (.istore 5, 2) := by decide +kernel
theorem dL_bed_13 : decode cL_bed 13 = .ok (.iload 5, 2) := by decide +kernel
theorem dL_bed_15 : decode cL_bed 15 = .ok (.bipush 40, 2) := by decide +kernel
theorem dL_bed_17 : decode cL_bed 17 = .ok (.if_icmp .ge 166, 3) := by decide +kernel
theorem dL_bed_20 : decode cL_bed 20 = .ok (.aload_n 0, 1) := by decide +kernel
theorem dL_bed_21 : decode cL_bed 21 = .ok (.iload 5, 2) := by decide +kernel
theorem dL_bed_23 : decode cL_bed 23 = .ok (.iconst 2, 1) := by decide +kernel
theorem dL_bed_24 : decode cL_bed 24 = .ok (.invokevirtual 43, 3) := by decide +kernel
theorem dL_bed_27 : decode cL_bed 27 = .ok (.istore 6, 2) := by decide +kernel
theorem dL_bed_29 : decode cL_bed 29 = .ok (.aload_n 0, 1) := by decide +kernel
theorem dL_bed_30 : decode cL_bed 30 = .ok (.iload 5, 2) := by decide +kernel
theorem dL_bed_32 : decode cL_bed 32 = .ok (.iconst 3, 1) := by decide +kernel
theorem dL_bed_33 : decode cL_bed 33 = .ok (.invokevirtual 43, 3) := by decide +kernel
theorem dL_bed_36 : decode cL_bed 36 = .ok (.istore 7, 2) := by decide +kernel
theorem dL_bed_38 : decode cL_bed 38 = .ok (.iload_n 1, 1) := by decide +kernel
theorem dL_bed_39 : decode cL_bed 39 = .ok (.iload 6, 2) := by decide +kernel
theorem dL_bed_41 : decode cL_bed 41 = .ok (.ifCond .le 7, 3) := by decide +kernel
theorem dL_bed_44 : decode cL_bed 44 = .ok (.iconst 1, 1) := by decide +kernel
theorem dL_bed_45 : decode cL_bed 45 = .ok (.goto 4, 3) := by decide +kernel
theorem dL_bed_48 : decode cL_bed 48 = .ok (.iconst 0, 1) := by decide +kernel
theorem dL_bed_49 : decode cL_bed 49 = .ok (.iadd, 1) := by decide +kernel
theorem dL_bed_50 : decode cL_bed 50 = .ok (.istore_n 1, 1) := by decide +kernel
theorem dL_bed_51 : decode cL_bed 51 = .ok (.iload_n 2, 1) := by decide +kernel
theorem dL_bed_52 : decode cL_bed 52 = .ok (.iload 6, 2) := by decide +kernel
theorem dL_bed_54 : decode cL_bed 54 = .ok (.iadd, 1) := by decide +kernel
theorem dL_bed_55 : decode cL_bed 55 = .ok (.istore_n 2, 1) := by decide +kernel
theorem dL_bed_56 : decode cL_bed 56 = .ok (.iload 6, 2) := by decide +kernel
theorem dL_bed_58 : decode cL_bed 58 = .ok (.ifCond .le 8, 3) := by decide +kernel
theorem dL_bed_61 : decode cL_bed 61 = .ok (.iload 5, 2) := by decide +kernel
theorem dL_bed_63 : decode cL_bed 63 = .ok (.goto 4, 3) := by decide +kernel
theorem dL_bed_66 : decode cL_bed 66 = .ok (.iload_n 3, 1) := by decide +kernel
theorem dL_bed_67 : decode cL_bed 67 = .ok (.istore_n 3, 1) := by decide +kernel
theorem dL_bed_68 : decode cL_bed 68 = .ok (.iload 4, 2) := by decide +kernel
theorem dL_bed_70 : decode cL_bed 70 = .ok (.iload 7, 2) := by decide +kernel
theorem dL_bed_72 : decode cL_bed 72 = .ok (.ifCond .lt 7, 3) := by decide +kernel
theorem dL_bed_75 : decode cL_bed 75 = .ok (.iconst 1, 1) := by decide +kernel
theorem dL_bed_76 : decode cL_bed 76 = .ok (.goto 4, 3) := by decide +kernel
theorem dL_bed_79 : decode cL_bed 79 = .ok (.iconst 0, 1) := by decide +kernel
theorem dL_bed_80 : decode cL_bed 80 = .ok (.iadd, 1) := by decide +kernel
theorem dL_bed_81 : decode cL_bed 81 = .ok (.istore 4, 2) := by decide +kernel
theorem dL_bed_83 : decode cL_bed 83 = .ok (.iload 6, 2) := by decide +kernel
theorem dL_bed_85 : decode cL_bed 85 = .ok (.ifCond .lt 90, 3) := by decide +kernel
theorem dL_bed_88 : decode cL_bed 88 = .ok (.iload 6, 2) := by decide +kernel
theorem dL_bed_90 : decode cL_bed 90 = .ok (.aload_n 0, 1) := by decide +kernel
theorem dL_bed_91 : decode cL_bed 91 = .ok (.iload 5, 2) := by decide +kernel
theorem dL_bed_93 : decode cL_bed 93 = .ok (.iconst 0, 1) := by decide +kernel
theorem dL_bed_94 : decode cL_bed 94 = .ok (.invokevirtual 43, 3) := by decide +kernel
theorem dL_bed_97 : decode cL_bed 97 = .ok (.if_icmp .gt 78, 3) := by decide +kernel
theorem dL_bed_100 : decode cL_bed 100 = .ok (.aload_n 0, 1) := by decide +kernel
theorem dL_bed_101 : decode cL_bed 101 = .ok (.iload 5, 2) := by decide +kernel
theorem dL_bed_103 : decode cL_bed 103 = .ok (.iconst 1, 1) := by decide +kernel
theorem dL_bed_104 : decode cL_bed 104 = .ok (.invokevirtual 43, 3) := by decide +kernel
theorem dL_bed_107 : decode cL_bed 107 = .ok (.aload_n 0, 1) := by decide +kernel
theorem dL_bed_108 : decode cL_bed 108 = .ok (.iload 5, 2) := by decide +kernel
theorem dL_bed_110 : decode cL_bed 110 = .ok (.iconst 0, 1) := by decide +kernel
theorem dL_bed_111 : decode cL_bed 111 = .ok (.invokevirtual 43, 3) := by decide +kernel
theorem dL_bed_114 : decode cL_bed 114 = .ok (.if_icmp .gt 61, 3) := by decide +kernel
theorem dL_bed_117 : decode cL_bed 117 = .ok (.aload_n 0, 1) := by decide +kernel
theorem dL_bed_118 : decode cL_bed 118 = .ok (.iload 5, 2) := by decide +kernel
theorem dL_bed_120 : decode cL_bed 120 = .ok (.iconst 4, 1) := by decide +kernel
theorem dL_bed_121 : decode cL_bed 121 = .ok (.invokevirtual 43, 3) := by decide +kernel
theorem dL_bed_124 : decode cL_bed 124 = .ok (.ifCond .lt 51, 3) := by decide +kernel
theorem dL_bed_127 : decode cL_bed 127 = .ok (.aload_n 0, 1) := by decide +kernel
theorem dL_bed_128 : decode cL_bed 128 = .ok (.iload 5, 2) := by decide +kernel
theorem dL_bed_130 : decode cL_bed 130 = .ok (.iconst 4, 1) := by decide +kernel
theorem dL_bed_131 : decode cL_bed 131 = .ok (.invokevirtual 43, 3) := by decide +kernel
theorem dL_bed_134 : decode cL_bed 134 = .ok (.aload_n 0, 1) := by decide +kernel
theorem dL_bed_135 : decode cL_bed 135 = .ok (.iconst 0, 1) := by decide +kernel
theorem dL_bed_136 : decode cL_bed 136 = .ok (.invokevirtual 46, 3) := by decide +kernel
theorem dL_bed_139 : decode cL_bed 139 = .ok (.if_icmp .gt 36, 3) := by decide +kernel
theorem dL_bed_142 : decode cL_bed 142 = .ok (.iload 7, 2) := by decide +kernel
theorem dL_bed_144 : decode cL_bed 144 = .ok (.ifCond .lt 15, 3) := by decide +kernel
theorem dL_bed_147 : decode cL_bed 147 = .ok (.aload_n 0, 1) := by decide +kernel
theorem dL_bed_148 : decode cL_bed 148 = .ok (.iload 7, 2) := by decide +kernel
theorem dL_bed_150 : decode cL_bed 150 = .ok (.iconst 0, 1) := by decide +kernel
theorem dL_bed_151 : decode cL_bed 151 = .ok (.invokevirtual 49, 3) := by decide +kernel
theorem dL_bed_154 : decode cL_bed 154 = .ok (.iload 5, 2) := by decide +kernel
theorem dL_bed_156 : decode cL_bed 156 = .ok (.if_icmp .ne 19, 3) := by decide +kernel
theorem dL_bed_159 : decode cL_bed 159 = .ok (.iload 5, 2) := by decide +kernel
theorem dL_bed_161 : decode cL_bed 161 = .ok (.aload_n 0, 1) := by decide +kernel
theorem dL_bed_162 : decode cL_bed 162 = .ok (.bipush 8, 2) := by decide +kernel
theorem dL_bed_164 : decode cL_bed 164 = .ok (.invokevirtual 46, 3) := by decide +kernel
theorem dL_bed_167 : decode cL_bed 167 = .ok (.if_icmp .le 10, 3) := by decide +kernel
theorem dL_bed_170 : decode cL_bed 170 = .ok (.iload 6, 2) := by decide +kernel
theorem dL_bed_172 : decode cL_bed 172 = .ok (.ifCond .le 5, 3) := by decide +kernel
theorem dL_bed_175 : decode cL_bed 175 = .ok (.iconst 0, 1) := by decide +kernel
theorem dL_bed_176 : decode cL_bed 176 = .ok (.ireturn, 1) := by decide +kernel
theorem dL_bed_177 : decode cL_bed 177 = .ok (.iinc 5 1, 3) := by decide +kernel
theorem dL_bed_180 : decode cL_bed 180 = .ok (.goto (-167), 3) := by decide +kernel
theorem dL_bed_183 : decode cL_bed 183 = .ok (.aload_n 0, 1) := by decide +kernel
theorem dL_bed_184 : decode cL_bed 184 = .ok (.invokevirtual 52, 3) := by decide +kernel
theorem dL_bed_187 : decode cL_bed 187 = .ok (.iload_n 3, 1) := by decide +kernel
theorem dL_bed_188 : decode cL_bed 188 = .ok (.if_icmp .ne 56, 3) := by decide +kernel
theorem dL_bed_191 : decode cL_bed 191 = .ok (.aload_n 0, 1) := by decide +kernel
theorem dL_bed_192 : decode cL_bed 192 = .ok (.iconst 2, 1) := by decide +kernel
theorem dL_bed_193 : decode cL_bed 193 = .ok (.invokevirtual 46, 3) := by decide +kernel
theorem dL_bed_196 : decode cL_bed 196 = .ok (.iload_n 1, 1) := by decide +kernel
theorem dL_bed_197 : decode cL_bed 197 = .ok (.if_icmp .ne 47, 3) := by decide +kernel
theorem dL_bed_200 : decode cL_bed 200 = .ok (.aload_n 0, 1) := by decide +kernel
theorem dL_bed_201 : decode cL_bed 201 = .ok (.iconst 3, 1) := by decide +kernel
theorem dL_bed_202 : decode cL_bed 202 = .ok (.invokevirtual 46, 3) := by decide +kernel
theorem dL_bed_205 : decode cL_bed 205 = .ok (.iload_n 2, 1) := by decide +kernel
theorem dL_bed_206 : decode cL_bed 206 = .ok (.if_icmp .ne 38, 3) := by decide +kernel
theorem dL_bed_209 : decode cL_bed 209 = .ok (.aload_n 0, 1) := by decide +kernel
theorem dL_bed_210 : decode cL_bed 210 = .ok (.iconst 4, 1) := by decide +kernel
theorem dL_bed_211 : decode cL_bed 211 = .ok (.invokevirtual 46, 3) := by decide +kernel
theorem dL_bed_214 : decode cL_bed 214 = .ok (.iload 4, 2) := by decide +kernel
theorem dL_bed_216 : decode cL_bed 216 = .ok (.if_icmp .ne 28, 3) := by decide +kernel
theorem dL_bed_219 : decode cL_bed 219 = .ok (.aload_n 0, 1) := by decide +kernel
theorem dL_bed_220 : decode cL_bed 220 = .ok (.bipush 8, 2) := by decide +kernel
theorem dL_bed_222 : decode cL_bed 222 = .ok (.invokevirtual 46, 3) := by decide +kernel
theorem dL_bed_225 : decode cL_bed 225 = .ok (.bipush 40, 2) := by decide +kernel
theorem dL_bed_227 : decode cL_bed 227 = .ok (.if_icmp .ge 17, 3) := by decide +kernel
theorem dL_bed_230 : decode cL_bed 230 = .ok (.aload_n 0, 1) := by decide +kernel
theorem dL_bed_231 : decode cL_bed 231 = .ok (.bipush 8, 2) := by decide +kernel
theorem dL_bed_233 : decode cL_bed 233 = .ok (.invokevirtual 46, 3) := by decide +kernel
theorem dL_bed_236 : decode cL_bed 236 = .ok (.iload_n 3, 1) := by decide +kernel
theorem dL_bed_237 : decode cL_bed 237 = .ok (.if_icmp .lt 7, 3) := by decide +kernel
theorem dL_bed_240 : decode cL_bed 240 = .ok (.iconst 1, 1) := by decide +kernel
theorem dL_bed_241 : decode cL_bed 241 = .ok (.goto 4, 3) := by decide +kernel
theorem dL_bed_244 : decode cL_bed 244 = .ok (.iconst 0, 1) := by decide +kernel
theorem dL_bed_245 : decode cL_bed 245 = .ok (.ireturn, 1) := by decide +kernel
theorem dL_hangs_0 : decode cL_hangs 0 = .ok (.iconst 0, 1) := by decide +kernel
theorem dL_hangs_1 : decode cL_hangs 1 = .ok (.istore_n 1, 1) := by decide +kernel
theorem dL_hangs_2 : decode cL_hangs 2 = .ok (.iconst 0, 1) := by decide +kernel
theorem dL_hangs_3 : decode cL_hangs 3 = .ok (.istore_n 2, 1) := by decide +kernel
theorem dL_hangs_4 : decode cL_hangs 4 = .ok (.iconst 0, 1) := by decide +kernel
theorem dL_hangs_5 : decode cL_hangs 5 = .ok (.istore_n 3, 1) := by decide +kernel
theorem dL_hangs_6 : decode cL_hangs 6 = .ok (.iconst 0, 1) := by decide +kernel
theorem dL_hangs_7 : decode cL_hangs 7 = .ok (.istore 4, 2) := by decide +kernel
theorem dL_hangs_9 : decode cL_hangs 9 = .ok (.iload 4, 2) := by decide +kernel
theorem dL_hangs_11 : decode cL_hangs 11 = .ok (.aload_n 0, 1) := by decide +kernel
theorem dL_hangs_12 : decode cL_hangs 12 = .ok (.iconst 4, 1) := by decide +kernel
theorem dL_hangs_13 : decode cL_hangs 13 = .ok (.invokevirtual 46, 3) := by decide +kernel
theorem dL_hangs_16 : decode cL_hangs 16 = .ok (.if_icmp .ge 251, 3) := by decide +kernel
theorem dL_hangs_19 : decode cL_hangs 19 = .ok (.aload_n 0, 1) := by decide +kernel
theorem dL_hangs_20 : decode cL_hangs 20 = .ok (.iload 4, 2) := by decide +kernel
theorem dL_hangs_22 : decode cL_hangs 22 = .ok (.iconst 1, 1) := by decide +kernel
theorem dL_hangs_23 : decode cL_hangs 23 = .ok (.invokevirtual 49, 3) := by decide +kernel
theorem dL_hangs_26 : decode cL_hangs 26 = .ok (.istore 5, 2) := by decide +kernel
theorem dL_hangs_28 : decode cL_hangs 28 = .ok (.aload_n 0, 1) := by decide +kernel
theorem dL_hangs_29 : decode cL_hangs 29 = .ok (.iload 4, 2) := by decide +kernel
theorem dL_hangs_31 : decode cL_hangs 31 = .ok (.iconst 3, 1) := by decide +kernel
theorem dL_hangs_32 : decode cL_hangs 32 = .ok (.invokevirtual 49, 3) := by decide +kernel
theorem dL_hangs_35 : decode cL_hangs 35 = .ok (.iconst 1, 1) := by decide +kernel
theorem dL_hangs_36 : decode cL_hangs 36 = .ok (.if_icmp .ne 7, 3) := by decide +kernel
theorem dL_hangs_39 : decode cL_hangs 39 = .ok (.iconst 1, 1) := by decide +kernel
theorem dL_hangs_40 : decode cL_hangs 40 = .ok (.goto 4, 3) := by decide +kernel
theorem dL_hangs_43 : decode cL_hangs 43 = .ok (.iconst 0, 1) := by decide +kernel
theorem dL_hangs_44 : decode cL_hangs 44 = .ok (.istore 6, 2) := by decide +kernel
theorem dL_hangs_46 : decode cL_hangs 46 = .ok (.iconst 0, 1) := by decide +kernel
theorem dL_hangs_47 : decode cL_hangs 47 = .ok (.istore 7, 2) := by decide +kernel
theorem dL_hangs_49 : decode cL_hangs 49 = .ok (.iload 7, 2) := by decide +kernel
theorem dL_hangs_51 : decode cL_hangs 51 = .ok (.aload_n 0, 1) := by decide +kernel
theorem dL_hangs_52 : decode cL_hangs 52 = .ok (.iconst 4, 1) := by decide +kernel
theorem dL_hangs_53 : decode cL_hangs 53 = .ok (.invokevirtual 46, 3) := by decide +kernel
theorem dL_hangs_56 : decode cL_hangs 56 = .ok (.if_icmp .ge 64, 3) := by decide +kernel
theorem dL_hangs_59 : decode cL_hangs 59 = .ok (.aload_n 0, 1) := by decide +kernel
theorem dL_hangs_60 : decode cL_hangs 60 = .ok (.iload 7, 2) := by decide +kernel
theorem dL_hangs_62 : decode cL_hangs 62 = .ok (.iconst 0, 1) := by decide +kernel
theorem dL_hangs_63 : decode cL_hangs 63 = .ok (.invokevirtual 49, 3) := by decide +kernel
theorem dL_hangs_66 : decode cL_hangs 66 = .ok (.aload_n 0, 1) := by decide +kernel
theorem dL_hangs_67 : decode cL_hangs 67 = .ok (.iload 4, 2) := by decide +kernel
theorem dL_hangs_69 : decode cL_hangs 69 = .ok (.iconst 0, 1) := by decide +kernel
theorem dL_hangs_70 : decode cL_hangs 70 = .ok (.invokevirtual 49, 3) := by decide +kernel
theorem dL_hangs_73 : decode cL_hangs 73 = .ok (.isub, 1) := by decide +kernel
theorem dL_hangs_74 : decode cL_hangs 74 = .ok (.istore 8, 2) := by decide +kernel
theorem dL_hangs_76 : decode cL_hangs 76 = .ok (.iload 5, 2) := by decide +kernel
theorem dL_hangs_78 : decode cL_hangs 78 = .ok (.iload 8, 2) := by decide +kernel
theorem dL_hangs_80 : decode cL_hangs 80 = .ok (.iconst 1, 1) := by decide +kernel
theorem dL_hangs_81 : decode cL_hangs 81 = .ok (.if_icmp .eq 9, 3) := by decide +kernel
theorem dL_hangs_84 : decode cL_hangs 84 = .ok (.iload 8, 2) := by decide +kernel
theorem dL_hangs_86 : decode cL_hangs 86 = .ok (.iconst (-1), 1) := by decide +kernel
theorem dL_hangs_87 : decode cL_hangs 87 = .ok (.if_icmp .ne 23, 3) := by decide +kernel
theorem dL_hangs_90 : decode cL_hangs 90 = .ok (.aload_n 0, 1) := by decide +kernel
theorem dL_hangs_91 : decode cL_hangs 91 = .ok (.iload 7, 2) := by decide +kernel
theorem dL_hangs_93 : decode cL_hangs 93 = .ok (.iconst 3, 1) := by decide +kernel
theorem dL_hangs_94 : decode cL_hangs 94 = .ok (.invokevirtual 49, 3) := by decide +kernel
theorem dL_hangs_97 : decode cL_hangs 97 = .ok (.ifCond .ne 13, 3) := by decide +kernel
theorem dL_hangs_100 : decode cL_hangs 100 = .ok (.aload_n 0, 1) := by decide +kernel
theorem dL_hangs_101 : decode cL_hangs 101 = .ok (.iload 7, 2) := by decide +kernel
theorem dL_hangs_103 : decode cL_hangs 103 = .ok (.iconst 1, 1) := by decide +kernel
theorem dL_hangs_104 : decode cL_hangs 104 = .ok (.invokevirtual 49, 3) := by decide +kernel
theorem dL_hangs_107 : decode cL_hangs 107 = .ok (.goto 4, 3) := by decide +kernel
theorem dL_hangs_110 : decode cL_hangs 110 = .ok (.iconst 0, 1) := by decide +kernel
theorem dL_hangs_111 : decode cL_hangs 111 = .ok (.isub, 1) := by decide +kernel
theorem dL_hangs_112 : decode cL_hangs 112 = .ok (.istore 5, 2) := by decide +kernel
theorem dL_hangs_114 : decode cL_hangs 114 = .ok (.iinc 7 1, 3) := by decide +kernel
theorem dL_hangs_117 : decode cL_hangs 117 = .ok (.goto (-68), 3) := by decide +kernel
theorem dL_hangs_120 : decode cL_hangs 120 = .ok (.iload_n 1, 1) := by decide +kernel
theorem dL_hangs_121 : decode cL_hangs 121 = .ok (.aload_n 0, 1) := by decide +kernel
theorem dL_hangs_122 : decode cL_hangs 122 = .ok (.iload 4, 2) := by decide +kernel
theorem dL_hangs_124 : decode cL_hangs 124 = .ok (.iconst 3, 1) := by decide +kernel
theorem dL_hangs_125 : decode cL_hangs 125 = .ok (.invokevirtual 49, 3) := by decide +kernel
theorem dL_hangs_128 : decode cL_hangs 128 = .ok (.iadd, 1) := by decide +kernel
theorem dL_hangs_129 : decode cL_hangs 129 = .ok (.istore_n 1, 1) := by decide +kernel
theorem dL_hangs_130 : decode cL_hangs 130 = .ok (.iload_n 2, 1) := by decide +kernel
theorem dL_hangs_131 : decode cL_hangs 131 = .ok (.aload_n 0, 1) := by decide +kernel
theorem dL_hangs_132 : decode cL_hangs 132 = .ok (.iload 4, 2) := by decide +kernel
theorem dL_hangs_134 : decode cL_hangs 134 = .ok (.iconst 2, 1) := by decide +kernel
theorem dL_hangs_135 : decode cL_hangs 135 = .ok (.invokevirtual 49, 3) := by decide +kernel
theorem dL_hangs_138 : decode cL_hangs 138 = .ok (.iadd, 1) := by decide +kernel
theorem dL_hangs_139 : decode cL_hangs 139 = .ok (.istore_n 2, 1) := by decide +kernel
theorem dL_hangs_140 : decode cL_hangs 140 = .ok (.iload_n 3, 1) := by decide +kernel
theorem dL_hangs_141 : decode cL_hangs 141 = .ok (.aload_n 0, 1) := by decide +kernel
theorem dL_hangs_142 : decode cL_hangs 142 = .ok (.iload 4, 2) := by decide +kernel
theorem dL_hangs_144 : decode cL_hangs 144 = .ok (.iconst 5, 1) := by decide +kernel
theorem dL_hangs_145 : decode cL_hangs 145 = .ok (.invokevirtual 49, 3) := by decide +kernel
theorem dL_hangs_148 : decode cL_hangs 148 = .ok (.iadd, 1) := by decide +kernel
theorem dL_hangs_149 : decode cL_hangs 149 = .ok (.istore_n 3, 1) := by decide +kernel
theorem dL_hangs_150 : decode cL_hangs 150 = .ok (.aload_n 0, 1) := by decide +kernel
theorem dL_hangs_151 : decode cL_hangs 151 = .ok (.iload 4, 2) := by decide +kernel
theorem dL_hangs_153 : decode cL_hangs 153 = .ok (.iconst 4, 1) := by decide +kernel
theorem dL_hangs_154 : decode cL_hangs 154 = .ok (.invokevirtual 49, 3) := by decide +kernel
theorem dL_hangs_157 : decode cL_hangs 157 = .ok (.iload 6, 2) := by decide +kernel
theorem dL_hangs_159 : decode cL_hangs 159 = .ok (.ifCond .ne 8, 3) := by decide +kernel
theorem dL_hangs_162 : decode cL_hangs 162 = .ok (.iload 5, 2) := by decide +kernel
theorem dL_hangs_164 : decode cL_hangs 164 = .ok (.ifCond .ge 7, 3) := by decide +kernel
theorem dL_hangs_167 : decode cL_hangs 167 = .ok (.iconst 0, 1) := by decide +kernel
theorem dL_hangs_168 : decode cL_hangs 168 = .ok (.goto 5, 3) := by decide +kernel
theorem dL_hangs_171 : decode cL_hangs 171 = .ok (.iload 5, 2) := by decide +kernel
theorem dL_hangs_173 : decode cL_hangs 173 = .ok (.if_icmp .ne 86, 3) := by decide +kernel
theorem dL_hangs_176 : decode cL_hangs 176 = .ok (.aload_n 0, 1) := by decide +kernel
theorem dL_hangs_177 : decode cL_hangs 177 = .ok (.aload_n 0, 1) := by decide +kernel
theorem dL_hangs_178 : decode cL_hangs 178 = .ok (.iload 4, 2) := by decide +kernel
theorem dL_hangs_180 : decode cL_hangs 180 = .ok (.iconst 0, 1) := by decide +kernel
theorem dL_hangs_181 : decode cL_hangs 181 = .ok (.invokevirtual 49, 3) := by decide +kernel
theorem dL_hangs_184 : decode cL_hangs 184 = .ok (.iconst 3, 1) := by decide +kernel
theorem dL_hangs_185 : decode cL_hangs 185 = .ok (.invokevirtual 43, 3) := by decide +kernel
theorem dL_hangs_188 : decode cL_hangs 188 = .ok (.iload 4, 2) := by decide +kernel
theorem dL_hangs_190 : decode cL_hangs 190 = .ok (.if_icmp .ne 69, 3) := by decide +kernel
theorem dL_hangs_193 : decode cL_hangs 193 = .ok (.iload 6, 2) := by decide +kernel
theorem dL_hangs_195 : decode cL_hangs 195 = .ok (.ifCond .eq 13, 3) := by decide +kernel
theorem dL_hangs_198 : decode cL_hangs 198 = .ok (.aload_n 0, 1) := by decide +kernel
theorem dL_hangs_199 : decode cL_hangs 199 = .ok (.iload 4, 2) := by decide +kernel
theorem dL_hangs_201 : decode cL_hangs 201 = .ok (.iconst 2, 1) := by decide +kernel
theorem dL_hangs_202 : decode cL_hangs 202 = .ok (.invokevirtual 49, 3) := by decide +kernel
theorem dL_hangs_205 : decode cL_hangs 205 = .ok (.ifCond .eq 54, 3) := by decide +kernel
theorem dL_hangs_208 : decode cL_hangs 208 = .ok (.iload 6, 2) := by decide +kernel
theorem dL_hangs_210 : decode cL_hangs 210 = .ok (.ifCond .ne 15, 3) := by decide +kernel
theorem dL_hangs_213 : decode cL_hangs 213 = .ok (.aload_n 0, 1) := by decide +kernel
theorem dL_hangs_214 : decode cL_hangs 214 = .ok (.iload 4, 2) := by decide +kernel
theorem dL_hangs_216 : decode cL_hangs 216 = .ok (.iconst 2, 1) := by decide +kernel
theorem dL_hangs_217 : decode cL_hangs 217 = .ok (.invokevirtual 49, 3) := by decide +kernel
theorem dL_hangs_220 : decode cL_hangs 220 = .ok (.bipush 49, 2) := by decide +kernel
theorem dL_hangs_222 : decode cL_hangs 222 = .ok (.if_icmp .gt 37, 3) := by decide +kernel
theorem dL_hangs_225 : decode cL_hangs 225 = .ok (.iload 6, 2) := by decide +kernel
theorem dL_hangs_227 : decode cL_hangs 227 = .ok (.ifCond .eq 14, 3) := by decide +kernel
theorem dL_hangs_230 : decode cL_hangs 230 = .ok (.aload_n 0, 1) := by decide +kernel
theorem dL_hangs_231 : decode cL_hangs 231 = .ok (.iload 4, 2) := by decide +kernel
theorem dL_hangs_233 : decode cL_hangs 233 = .ok (.bipush 6, 2) := by decide +kernel
theorem dL_hangs_235 : decode cL_hangs 235 = .ok (.invokevirtual 49, 3) := by decide +kernel
theorem dL_hangs_238 : decode cL_hangs 238 = .ok (.ifCond .eq 21, 3) := by decide +kernel
theorem dL_hangs_241 : decode cL_hangs 241 = .ok (.aload_n 0, 1) := by decide +kernel
theorem dL_hangs_242 : decode cL_hangs 242 = .ok (.iload 4, 2) := by decide +kernel
theorem dL_hangs_244 : decode cL_hangs 244 = .ok (.iconst 5, 1) := by decide +kernel
theorem dL_hangs_245 : decode cL_hangs 245 = .ok (.invokevirtual 49, 3) := by decide +kernel
theorem dL_hangs_248 : decode cL_hangs 248 = .ok (.bipush 30, 2) := by decide +kernel
theorem dL_hangs_250 : decode cL_hangs 250 = .ok (.aload_n 0, 1) := by decide +kernel
theorem dL_hangs_251 : decode cL_hangs 251 = .ok (.iconst 0, 1) := by decide +kernel
theorem dL_hangs_252 : decode cL_hangs 252 = .ok (.invokevirtual 46, 3) := by decide +kernel
theorem dL_hangs_255 : decode cL_hangs 255 = .ok (.imul, 1) := by decide +kernel
theorem dL_hangs_256 : decode cL_hangs 256 = .ok (.if_icmp .le 5, 3) := by decide +kernel
theorem dL_hangs_259 : decode cL_hangs 259 = .ok (.iconst 0, 1) := by decide +kernel
theorem dL_hangs_260 : decode cL_hangs 260 = .ok (.ireturn, 1) := by decide +kernel
theorem dL_hangs_261 : decode cL_hangs 261 = .ok (.iinc 4 1, 3) := by decide +kernel
theorem dL_hangs_264 : decode cL_hangs 264 = .ok (.goto (-255), 3) := by decide +kernel
theorem dL_hangs_267 : decode cL_hangs 267 = .ok (.aload_n 0, 1) := by decide +kernel
theorem dL_hangs_268 : decode cL_hangs 268 = .ok (.iconst 5, 1) := by decide +kernel
theorem dL_hangs_269 : decode cL_hangs 269 = .ok (.invokevirtual 46, 3) := by decide +kernel
theorem dL_hangs_272 : decode cL_hangs 272 = .ok (.iload_n 1, 1) := by decide +kernel
theorem dL_hangs_273 : decode cL_hangs 273 = .ok (.if_icmp .ne 44, 3) := by decide +kernel
theorem dL_hangs_276 : decode cL_hangs 276 = .ok (.aload_n 0, 1) := by decide +kernel
theorem dL_hangs_277 : decode cL_hangs 277 = .ok (.bipush 6, 2) := by decide +kernel
theorem dL_hangs_279 : decode cL_hangs 279 = .ok (.invokevirtual 46, 3) := by decide +kernel
theorem dL_hangs_282 : decode cL_hangs 282 = .ok (.iload_n 2, 1) := by decide +kernel
theorem dL_hangs_283 : decode cL_hangs 283 = .ok (.if_icmp .ne 34, 3) := by decide +kernel
theorem dL_hangs_286 : decode cL_hangs 286 = .ok (.aload_n 0, 1) := by decide +kernel
theorem dL_hangs_287 : decode cL_hangs 287 = .ok (.bipush 7, 2) := by decide +kernel
theorem dL_hangs_289 : decode cL_hangs 289 = .ok (.invokevirtual 46, 3) := by decide +kernel
theorem dL_hangs_292 : decode cL_hangs 292 = .ok (.iload_n 3, 1) := by decide +kernel
theorem dL_hangs_293 : decode cL_hangs 293 = .ok (.if_icmp .ne 24, 3) := by decide +kernel
theorem dL_hangs_296 : decode cL_hangs 296 = .ok (.aload_n 0, 1) := by decide +kernel
theorem dL_hangs_297 : decode cL_hangs 297 = .ok (.iconst 4, 1) := by decide +kernel
theorem dL_hangs_298 : decode cL_hangs 298 = .ok (.invokevirtual 46, 3) := by decide +kernel
theorem dL_hangs_301 : decode cL_hangs 301 = .ok (.bipush 7, 2) := by decide +kernel
theorem dL_hangs_303 : decode cL_hangs 303 = .ok (.if_icmp .ge 14, 3) := by decide +kernel
theorem dL_hangs_306 : decode cL_hangs 306 = .ok (.aload_n 0, 1) := by decide +kernel
theorem dL_hangs_307 : decode cL_hangs 307 = .ok (.invokestatic 56, 3) := by decide +kernel
theorem dL_hangs_310 : decode cL_hangs 310 = .ok (.ifCond .eq 7, 3) := by decide +kernel
theorem dL_hangs_313 : decode cL_hangs 313 = .ok (.iconst 1, 1) := by decide +kernel
theorem dL_hangs_314 : decode cL_hangs 314 = .ok (.goto 4, 3) := by decide +kernel
theorem dL_hangs_317 : decode cL_hangs 317 = .ok (.iconst 0, 1) := by decide +kernel
theorem dL_hangs_318 : decode cL_hangs 318 = .ok (.ireturn, 1) := by decide +kernel
theorem dL_print_0 : decode cL_print 0 = .ok (.ldc2_w 60, 3) := by decide +kernel
theorem dL_print_3 : decode cL_print 3 = .ok (.lstore_n 1, 1) := by decide +kernel
theorem dL_print_4 : decode cL_print 4 = .ok (.iconst 0, 1) := by decide +kernel
theorem dL_print_5 : decode cL_print 5 = .ok (.istore_n 3, 1) := by decide +kernel
theorem dL_print_6 : decode cL_print 6 = .ok (.iload_n 3, 1) := by decide +kernel
theorem dL_print_7 : decode cL_print 7 = .ok (.bipush 12, 2) := by decide +kernel
theorem dL_print_9 : decode cL_print 9 = .ok (.if_icmp .ge 22, 3) := by decide +kernel
theorem dL_print_12 : decode cL_print 12 = .ok (.ldc2_w 62, 3) := by decide +kernel
theorem dL_print_15 : decode cL_print 15 = .ok (.lload_n 1, 1) := by decide +kernel
theorem dL_print_16 : decode cL_print 16 = .ok (.lmul, 1) := by decide +kernel
theorem dL_print_17 : decode cL_print 17 = .ok (.aload_n 0, 1) := by decide +kernel
theorem dL_print_18 : decode cL_print 18 = .ok (.iload_n 3, 1) := by decide +kernel
theorem dL_print_19 : decode cL_print 19 = .ok (.invokevirtual 46, 3) := by decide +kernel
theorem dL_print_22 : decode cL_print 22 = .ok (.i2l, 1) := by decide +kernel
theorem dL_print_23 : decode cL_print 23 = .ok (.ladd, 1) := by decide +kernel
theorem dL_print_24 : decode cL_print 24 = .ok (.lstore_n 1, 1) := by decide +kernel
theorem dL_print_25 : decode cL_print 25 = .ok (.iinc 3 1, 3) := by decide +kernel
theorem dL_print_28 : decode cL_print 28 = .ok (.goto (-22), 3) := by decide +kernel
theorem dL_print_31 : decode cL_print 31 = .ok (.iconst 0, 1) := by decide +kernel
theorem dL_print_32 : decode cL_print 32 = .ok (.istore_n 3, 1) := by decide +kernel
theorem dL_print_33 : decode cL_print 33 = .ok (.iload_n 3, 1) := by decide +kernel
theorem dL_print_34 : decode cL_print 34 = .ok (.sipush 200, 3) := by decide +kernel
theorem dL_print_37 : decode cL_print 37 = .ok (.if_icmp .ge 27, 3) := by decide +kernel
theorem dL_print_40 : decode cL_print 40 = .ok (.ldc2_w 62, 3) := by decide +kernel
theorem dL_print_43 : decode cL_print 43 = .ok (.lload_n 1, 1) := by decide +kernel
theorem dL_print_44 : decode cL_print 44 = .ok (.lmul, 1) := by decide +kernel
theorem dL_print_45 : decode cL_print 45 = .ok (.aload_n 0, 1) := by decide +kernel
theorem dL_print_46 : decode cL_print 46 = .ok (.iload_n 3, 1) := by decide +kernel
theorem dL_print_47 : decode cL_print 47 = .ok (.iconst 5, 1) := by decide +kernel
theorem dL_print_48 : decode cL_print 48 = .ok (.idiv, 1) := by decide +kernel
theorem dL_print_49 : decode cL_print 49 = .ok (.iload_n 3, 1) := by decide +kernel
theorem dL_print_50 : decode cL_print 50 = .ok (.iconst 5, 1) := by decide +kernel
theorem dL_print_51 : decode cL_print 51 = .ok (.irem, 1) := by decide +kernel
theorem dL_print_52 : decode cL_print 52 = .ok (.invokevirtual 43, 3) := by decide +kernel
theorem dL_print_55 : decode cL_print 55 = .ok (.i2l, 1) := by decide +kernel
theorem dL_print_56 : decode cL_print 56 = .ok (.ladd, 1) := by decide +kernel
theorem dL_print_57 : decode cL_print 57 = .ok (.lstore_n 1, 1) := by decide +kernel
theorem dL_print_58 : decode cL_print 58 = .ok (.iinc 3 1, 3) := by decide +kernel
theorem dL_print_61 : decode cL_print 61 = .ok (.goto (-28), 3) := by decide +kernel
theorem dL_print_64 : decode cL_print 64 = .ok (.iconst 0, 1) := by decide +kernel
theorem dL_print_65 : decode cL_print 65 = .ok (.istore_n 3, 1) := by decide +kernel
theorem dL_print_66 : decode cL_print 66 = .ok (.iload_n 3, 1) := by decide +kernel
theorem dL_print_67 : decode cL_print 67 = .ok (.bipush 7, 2) := by decide +kernel
theorem dL_print_69 : decode cL_print 69 = .ok (.aload_n 0, 1) := by decide +kernel
theorem dL_print_70 : decode cL_print 70 = .ok (.iconst 4, 1) := by decide +kernel
theorem dL_print_71 : decode cL_print 71 = .ok (.invokevirtual 46, 3) := by decide +kernel
theorem dL_print_74 : decode cL_print 74 = .ok (.imul, 1) := by decide +kernel
theorem dL_print_75 : decode cL_print 75 = .ok (.if_icmp .ge 29, 3) := by decide +kernel
theorem dL_print_78 : decode cL_print 78 = .ok (.ldc2_w 62, 3) := by decide +kernel
theorem dL_print_81 : decode cL_print 81 = .ok (.lload_n 1, 1) := by decide +kernel
theorem dL_print_82 : decode cL_print 82 = .ok (.lmul, 1) := by decide +kernel
theorem dL_print_83 : decode cL_print 83 = .ok (.aload_n 0, 1) := by decide +kernel
theorem dL_print_84 : decode cL_print 84 = .ok (.iload_n 3, 1) := by decide +kernel
theorem dL_print_85 : decode cL_print 85 = .ok (.bipush 7, 2) := by decide +kernel
theorem dL_print_87 : decode cL_print 87 = .ok (.idiv, 1) := by decide +kernel
theorem dL_print_88 : decode cL_print 88 = .ok (.iload_n 3, 1) := by decide +kernel
theorem dL_print_89 : decode cL_print 89 = .ok (.bipush 7, 2) := by decide +kernel
theorem dL_print_91 : decode cL_print 91 = .ok (.irem, 1) := by decide +kernel
theorem dL_print_92 : decode cL_print 92 = .ok (.invokevirtual 49, 3) := by decide +kernel
theorem dL_print_95 : decode cL_print 95 = .ok (.i2l, 1) := by decide +kernel
theorem dL_print_96 : decode cL_print 96 = .ok (.ladd, 1) := by decide +kernel
theorem dL_print_97 : decode cL_print 97 = .ok (.lstore_n 1, 1) := by decide +kernel
theorem dL_print_98 : decode cL_print 98 = .ok (.iinc 3 1, 3) := by decide +kernel
theorem dL_print_101 : decode cL_print 101 = .ok (.goto (-35), 3) := by decide +kernel
theorem dL_print_104 : decode cL_print 104 = .ok (.lload_n 1, 1) := by decide +kernel
theorem dL_print_105 : decode cL_print 105 = .ok (.lreturn, 1) := by decide +kernel
theorem dL_comes_0 : decode cL_comes 0 = .ok (.aload_n 0, 1) := by decide +kernel
theorem dL_comes_1 : decode cL_comes 1 = .ok (.invokestatic 64, 3) := by decide +kernel
theorem dL_comes_4 : decode cL_comes 4 = .ok (.lstore_n 2, 1) := by decide +kernel
theorem dL_comes_5 : decode cL_comes 5 = .ok (.aload_n 0, 1) := by decide +kernel
theorem dL_comes_6 : decode cL_comes 6 = .ok (.iload_n 1, 1) := by decide +kernel
theorem dL_comes_7 : decode cL_comes 7 = .ok (.invokevirtual 68, 3) := by decide +kernel
theorem dL_comes_10 : decode cL_comes 10 = .ok (.istore 4, 2) := by decide +kernel
theorem dL_comes_12 : decode cL_comes 12 = .ok (.iload 4, 2) := by decide +kernel
theorem dL_comes_14 : decode cL_comes 14 = .ok (.ifCond .ge 8, 3) := by decide +kernel
theorem dL_comes_17 : decode cL_comes 17 = .ok (.bipush 40, 2) := by decide +kernel
theorem dL_comes_19 : decode cL_comes 19 = .ok (.goto 5, 3) := by decide +kernel
theorem dL_comes_22 : decode cL_comes 22 = .ok (.iload 4, 2) := by decide +kernel
theorem dL_comes_24 : decode cL_comes 24 = .ok (.istore 5, 2) := by decide +kernel
theorem dL_comes_26 : decode cL_comes 26 = .ok (.aload_n 0, 1) := by decide +kernel
theorem dL_comes_27 : decode cL_comes 27 = .ok (.bipush 9, 2) := by decide +kernel
theorem dL_comes_29 : decode cL_comes 29 = .ok (.invokevirtual 46, 3) := by decide +kernel
theorem dL_comes_32 : decode cL_comes 32 = .ok (.iload_n 1, 1) := by decide +kernel
theorem dL_comes_33 : decode cL_comes 33 = .ok (.iadd, 1) := by decide +kernel
theorem dL_comes_34 : decode cL_comes 34 = .ok (.aload_n 0, 1) := by decide +kernel
theorem dL_comes_35 : decode cL_comes 35 = .ok (.iconst 1, 1) := by decide +kernel
theorem dL_comes_36 : decode cL_comes 36 = .ok (.invokevirtual 46, 3) := by decide +kernel
theorem dL_comes_39 : decode cL_comes 39 = .ok (.isub, 1) := by decide +kernel
theorem dL_comes_40 : decode cL_comes 40 = .ok (.istore 6, 2) := by decide +kernel
theorem dL_comes_42 : decode cL_comes 42 = .ok (.iload 6, 2) := by decide +kernel
theorem dL_comes_44 : decode cL_comes 44 = .ok (.istore 7, 2) := by decide +kernel
theorem dL_comes_46 : decode cL_comes 46 = .ok (.iconst 0, 1) := by decide +kernel
theorem dL_comes_47 : decode cL_comes 47 = .ok (.istore 8, 2) := by decide +kernel
theorem dL_comes_49 : decode cL_comes 49 = .ok (.iconst 0, 1) := by decide +kernel
theorem dL_comes_50 : decode cL_comes 50 = .ok (.istore 9, 2) := by decide +kernel
theorem dL_comes_52 : decode cL_comes 52 = .ok (.iload 9, 2) := by decide +kernel
theorem dL_comes_54 : decode cL_comes 54 = .ok (.bipush 40, 2) := by decide +kernel
theorem dL_comes_56 : decode cL_comes 56 = .ok (.if_icmp .ge 289, 3) := by decide +kernel
theorem dL_comes_59 : decode cL_comes 59 = .ok (.aload_n 0, 1) := by decide +kernel
theorem dL_comes_60 : decode cL_comes 60 = .ok (.iload 9, 2) := by decide +kernel
theorem dL_comes_62 : decode cL_comes 62 = .ok (.iload_n 1, 1) := by decide +kernel
theorem dL_comes_63 : decode cL_comes 63 = .ok (.invokevirtual 71, 3) := by decide +kernel
theorem dL_comes_66 : decode cL_comes 66 = .ok (.istore 10, 2) := by decide +kernel
theorem dL_comes_68 : decode cL_comes 68 = .ok (.iload 7, 2) := by decide +kernel
theorem dL_comes_70 : decode cL_comes 70 = .ok (.aload_n 0, 1) := by decide +kernel
theorem dL_comes_71 : decode cL_comes 71 = .ok (.iload 9, 2) := by decide +kernel
theorem dL_comes_73 : decode cL_comes 73 = .ok (.iconst 0, 1) := by decide +kernel
theorem dL_comes_74 : decode cL_comes 74 = .ok (.invokevirtual 43, 3) := by decide +kernel
theorem dL_comes_77 : decode cL_comes 77 = .ok (.if_icmp .ge 8, 3) := by decide +kernel
theorem dL_comes_80 : decode cL_comes 80 = .ok (.iload 7, 2) := by decide +kernel
theorem dL_comes_82 : decode cL_comes 82 = .ok (.goto 10, 3) := by decide +kernel
theorem dL_comes_85 : decode cL_comes 85 = .ok (.aload_n 0, 1) := by decide +kernel
theorem dL_comes_86 : decode cL_comes 86 = .ok (.iload 9, 2) := by decide +kernel
theorem dL_comes_88 : decode cL_comes 88 = .ok (.iconst 0, 1) := by decide +kernel
theorem dL_comes_89 : decode cL_comes 89 = .ok (.invokevirtual 43, 3) := by decide +kernel
theorem dL_comes_92 : decode cL_comes 92 = .ok (.istore 11, 2) := by decide +kernel
theorem dL_comes_94 : decode cL_comes 94 = .ok (.aload_n 0, 1) := by decide +kernel
theorem dL_comes_95 : decode cL_comes 95 = .ok (.iload 9, 2) := by decide +kernel
theorem dL_comes_97 : decode cL_comes 97 = .ok (.iload_n 1, 1) := by decide +kernel
theorem dL_comes_98 : decode cL_comes 98 = .ok (.invokevirtual 74, 3) := by decide +kernel
theorem dL_comes_101 : decode cL_comes 101 = .ok (.istore 12, 2) := by decide +kernel
theorem dL_comes_103 : decode cL_comes 103 = .ok (.iload 10, 2) := by decide +kernel
theorem dL_comes_105 : decode cL_comes 105 = .ok (.iload 9, 2) := by decide +kernel
theorem dL_comes_107 : decode cL_comes 107 = .ok (.iload 5, 2) := by decide +kernel
theorem dL_comes_109 : decode cL_comes 109 = .ok (.if_icmp .ge 8, 3) := by decide +kernel
theorem dL_comes_112 : decode cL_comes 112 = .ok (.iload 11, 2) := by decide +kernel
theorem dL_comes_114 : decode cL_comes 114 = .ok (.goto 4, 3) := by decide +kernel
theorem dL_comes_117 : decode cL_comes 117 = .ok (.iconst 0, 1) := by decide +kernel
theorem dL_comes_118 : decode cL_comes 118 = .ok (.if_icmp .ne 127, 3) := by decide +kernel
theorem dL_comes_121 : decode cL_comes 121 = .ok (.iload 9, 2) := by decide +kernel
theorem dL_comes_123 : decode cL_comes 123 = .ok (.iload 5, 2) := by decide +kernel
theorem dL_comes_125 : decode cL_comes 125 = .ok (.if_icmp .ge 26, 3) := by decide +kernel
theorem dL_comes_128 : decode cL_comes 128 = .ok (.iload 7, 2) := by decide +kernel
theorem dL_comes_130 : decode cL_comes 130 = .ok (.aload_n 0, 1) := by decide +kernel
theorem dL_comes_131 : decode cL_comes 131 = .ok (.iload 9, 2) := by decide +kernel
theorem dL_comes_133 : decode cL_comes 133 = .ok (.iconst 1, 1) := by decide +kernel
theorem dL_comes_134 : decode cL_comes 134 = .ok (.invokevirtual 43, 3) := by decide +kernel
theorem dL_comes_137 : decode cL_comes 137 = .ok (.if_icmp .le 108, 3) := by decide +kernel
theorem dL_comes_140 : decode cL_comes 140 = .ok (.iload 12, 2) := by decide +kernel
theorem dL_comes_142 : decode cL_comes 142 = .ok (.ifCond .ne 103, 3) := by decide +kernel
theorem dL_comes_145 : decode cL_comes 145 = .ok (.iload 10, 2) := by decide +kernel
theorem dL_comes_147 : decode cL_comes 147 = .ok (.iconst 1, 1) := by decide +kernel
theorem dL_comes_148 : decode cL_comes 148 = .ok (.if_icmp .lt 97, 3) := by decide +kernel
theorem dL_comes_151 : decode cL_comes 151 = .ok (.iload 9, 2) := by decide +kernel
theorem dL_comes_153 : decode cL_comes 153 = .ok (.iload 5, 2) := by decide +kernel
theorem dL_comes_155 : decode cL_comes 155 = .ok (.if_icmp .ne 15, 3) := by decide +kernel
theorem dL_comes_158 : decode cL_comes 158 = .ok (.iload 7, 2) := by decide +kernel
theorem dL_comes_160 : decode cL_comes 160 = .ok (.aload_n 0, 1) := by decide +kernel
theorem dL_comes_161 : decode cL_comes 161 = .ok (.iload 9, 2) := by decide +kernel
theorem dL_comes_163 : decode cL_comes 163 = .ok (.iconst 1, 1) := by decide +kernel
theorem dL_comes_164 : decode cL_comes 164 = .ok (.invokevirtual 43, 3) := by decide +kernel
theorem dL_comes_167 : decode cL_comes 167 = .ok (.if_icmp .gt 78, 3) := by decide +kernel
theorem dL_comes_170 : decode cL_comes 170 = .ok (.iload 9, 2) := by decide +kernel
theorem dL_comes_172 : decode cL_comes 172 = .ok (.iload 5, 2) := by decide +kernel
theorem dL_comes_174 : decode cL_comes 174 = .ok (.if_icmp .lt 24, 3) := by decide +kernel
theorem dL_comes_177 : decode cL_comes 177 = .ok (.iload 12, 2) := by decide +kernel
theorem dL_comes_179 : decode cL_comes 179 = .ok (.iload 6, 2) := by decide +kernel
theorem dL_comes_181 : decode cL_comes 181 = .ok (.ifCond .gt 7, 3) := by decide +kernel
theorem dL_comes_184 : decode cL_comes 184 = .ok (.iconst 1, 1) := by decide +kernel
theorem dL_comes_185 : decode cL_comes 185 = .ok (.goto 10, 3) := by decide +kernel
theorem dL_comes_188 : decode cL_comes 188 = .ok (.aload_n 0, 1) := by decide +kernel
theorem dL_comes_189 : decode cL_comes 189 = .ok (.iload 5, 2) := by decide +kernel
theorem dL_comes_191 : decode cL_comes 191 = .ok (.iload_n 1, 1) := by decide +kernel
theorem dL_comes_192 : decode cL_comes 192 = .ok (.invokevirtual 74, 3) := by decide +kernel
theorem dL_comes_195 : decode cL_comes 195 = .ok (.if_icmp .ne 50, 3) := by decide +kernel
theorem dL_comes_198 : decode cL_comes 198 = .ok (.iload 9, 2) := by decide +kernel
theorem dL_comes_200 : decode cL_comes 200 = .ok (.iload 5, 2) := by decide +kernel
theorem dL_comes_202 : decode cL_comes 202 = .ok (.if_icmp .ne 32, 3) := by decide +kernel
theorem dL_comes_205 : decode cL_comes 205 = .ok (.iload 6, 2) := by decide +kernel
theorem dL_comes_207 : decode cL_comes 207 = .ok (.ifCond .le 27, 3) := by decide +kernel
theorem dL_comes_210 : decode cL_comes 210 = .ok (.iload 12, 2) := by decide +kernel
theorem dL_comes_212 : decode cL_comes 212 = .ok (.iconst 2, 1) := by decide +kernel
theorem dL_comes_213 : decode cL_comes 213 = .ok (.if_icmp .ne 7, 3) := by decide +kernel
theorem dL_comes_216 : decode cL_comes 216 = .ok (.iconst 1, 1) := by decide +kernel
theorem dL_comes_217 : decode cL_comes 217 = .ok (.goto 4, 3) := by decide +kernel
theorem dL_comes_220 : decode cL_comes 220 = .ok (.iconst 0, 1) := by decide +kernel
theorem dL_comes_221 : decode cL_comes 221 = .ok (.iload 7, 2) := by decide +kernel
theorem dL_comes_223 : decode cL_comes 223 = .ok (.ifCond .le 7, 3) := by decide +kernel
theorem dL_comes_226 : decode cL_comes 226 = .ok (.iconst 1, 1) := by decide +kernel
theorem dL_comes_227 : decode cL_comes 227 = .ok (.goto 4, 3) := by decide +kernel
theorem dL_comes_230 : decode cL_comes 230 = .ok (.iconst 0, 1) := by decide +kernel
theorem dL_comes_231 : decode cL_comes 231 = .ok (.if_icmp .ne 14, 3) := by decide +kernel
theorem dL_comes_234 : decode cL_comes 234 = .ok (.iload 12, 2) := by decide +kernel
theorem dL_comes_236 : decode cL_comes 236 = .ok (.ifCond .lt 9, 3) := by decide +kernel
theorem dL_comes_239 : decode cL_comes 239 = .ok (.iload 12, 2) := by decide +kernel
theorem dL_comes_241 : decode cL_comes 241 = .ok (.iconst 3, 1) := by decide +kernel
theorem dL_comes_242 : decode cL_comes 242 = .ok (.if_icmp .le 5, 3) := by decide +kernel
theorem dL_comes_245 : decode cL_comes 245 = .ok (.iconst 0, 1) := by decide +kernel
theorem dL_comes_246 : decode cL_comes 246 = .ok (.ireturn, 1) := by decide +kernel
theorem dL_comes_247 : decode cL_comes 247 = .ok (.iload 9, 2) := by decide +kernel
theorem dL_comes_249 : decode cL_comes 249 = .ok (.iload 5, 2) := by decide +kernel
theorem dL_comes_251 : decode cL_comes 251 = .ok (.if_icmp .ge 15, 3) := by decide +kernel
theorem dL_comes_254 : decode cL_comes 254 = .ok (.iload 10, 2) := by decide +kernel
theorem dL_comes_256 : decode cL_comes 256 = .ok (.aload_n 0, 1) := by decide +kernel
theorem dL_comes_257 : decode cL_comes 257 = .ok (.bipush 10, 2) := by decide +kernel
theorem dL_comes_259 : decode cL_comes 259 = .ok (.invokevirtual 46, 3) := by decide +kernel
theorem dL_comes_262 : decode cL_comes 262 = .ok (.isub, 1) := by decide +kernel
theorem dL_comes_263 : decode cL_comes 263 = .ok (.goto 5, 3) := by decide +kernel
theorem dL_comes_266 : decode cL_comes 266 = .ok (.iload 7, 2) := by decide +kernel
theorem dL_comes_268 : decode cL_comes 268 = .ok (.istore 7, 2) := by decide +kernel
theorem dL_comes_270 : decode cL_comes 270 = .ok (.iload 10, 2) := by decide +kernel
theorem dL_comes_272 : decode cL_comes 272 = .ok (.aload_n 0, 1) := by decide +kernel
theorem dL_comes_273 : decode cL_comes 273 = .ok (.iload 9, 2) := by decide +kernel
theorem dL_comes_275 : decode cL_comes 275 = .ok (.iconst 2, 1) := by decide +kernel
theorem dL_comes_276 : decode cL_comes 276 = .ok (.invokevirtual 43, 3) := by decide +kernel
theorem dL_comes_279 : decode cL_comes 279 = .ok (.isub, 1) := by decide +kernel
theorem dL_comes_280 : decode cL_comes 280 = .ok (.istore 13, 2) := by decide +kernel
theorem dL_comes_282 : decode cL_comes 282 = .ok (.iload 8, 2) := by decide +kernel
theorem dL_comes_284 : decode cL_comes 284 = .ok (.aload_n 0, 1) := by decide +kernel
theorem dL_comes_285 : decode cL_comes 285 = .ok (.iload 9, 2) := by decide +kernel
theorem dL_comes_287 : decode cL_comes 287 = .ok (.iconst 2, 1) := by decide +kernel
theorem dL_comes_288 : decode cL_comes 288 = .ok (.invokevirtual 43, 3) := by decide +kernel
theorem dL_comes_291 : decode cL_comes 291 = .ok (.iload 13, 2) := by decide +kernel
theorem dL_comes_293 : decode cL_comes 293 = .ok (.aload_n 0, 1) := by decide +kernel
theorem dL_comes_294 : decode cL_comes 294 = .ok (.bipush 11, 2) := by decide +kernel
theorem dL_comes_296 : decode cL_comes 296 = .ok (.invokevirtual 46, 3) := by decide +kernel
theorem dL_comes_299 : decode cL_comes 299 = .ok (.if_icmp .le 12, 3) := by decide +kernel
theorem dL_comes_302 : decode cL_comes 302 = .ok (.aload_n 0, 1) := by decide +kernel
theorem dL_comes_303 : decode cL_comes 303 = .ok (.bipush 11, 2) := by decide +kernel
theorem dL_comes_305 : decode cL_comes 305 = .ok (.invokevirtual 46, 3) := by decide +kernel
theorem dL_comes_308 : decode cL_comes 308 = .ok (.goto 27, 3) := by decide +kernel
theorem dL_comes_311 : decode cL_comes 311 = .ok (.iload 13, 2) := by decide +kernel
theorem dL_comes_313 : decode cL_comes 313 = .ok (.aload_n 0, 1) := by decide +kernel
theorem dL_comes_314 : decode cL_comes 314 = .ok (.bipush 11, 2) := by decide +kernel
theorem dL_comes_316 : decode cL_comes 316 = .ok (.invokevirtual 46, 3) := by decide +kernel
theorem dL_comes_319 : decode cL_comes 319 = .ok (.ineg, 1) := by decide +kernel
theorem dL_comes_320 : decode cL_comes 320 = .ok (.if_icmp .ge 13, 3) := by decide +kernel
theorem dL_comes_323 : decode cL_comes 323 = .ok (.aload_n 0, 1) := by decide +kernel
theorem dL_comes_324 : decode cL_comes 324 = .ok (.bipush 11, 2) := by decide +kernel
theorem dL_comes_326 : decode cL_comes 326 = .ok (.invokevirtual 46, 3) := by decide +kernel
theorem dL_comes_329 : decode cL_comes 329 = .ok (.ineg, 1) := by decide +kernel
theorem dL_comes_330 : decode cL_comes 330 = .ok (.goto 5, 3) := by decide +kernel
theorem dL_comes_333 : decode cL_comes 333 = .ok (.iload 13, 2) := by decide +kernel
theorem dL_comes_335 : decode cL_comes 335 = .ok (.iadd, 1) := by decide +kernel
theorem dL_comes_336 : decode cL_comes 336 = .ok (.iadd, 1) := by decide +kernel
theorem dL_comes_337 : decode cL_comes 337 = .ok (.istore 8, 2) := by decide +kernel
theorem dL_comes_339 : decode cL_comes 339 = .ok (.iinc 9 1, 3) := by decide +kernel
theorem dL_comes_342 : decode cL_comes 342 = .ok (.goto (-290), 3) := by decide +kernel
theorem dL_comes_345 : decode cL_comes 345 = .ok (.aload_n 0, 1) := by decide +kernel
theorem dL_comes_346 : decode cL_comes 346 = .ok (.iload_n 1, 1) := by decide +kernel
theorem dL_comes_347 : decode cL_comes 347 = .ok (.iconst 1, 1) := by decide +kernel
theorem dL_comes_348 : decode cL_comes 348 = .ok (.invokevirtual 40, 3) := by decide +kernel
theorem dL_comes_351 : decode cL_comes 351 = .ok (.istore 9, 2) := by decide +kernel
theorem dL_comes_353 : decode cL_comes 353 = .ok (.iload 9, 2) := by decide +kernel
theorem dL_comes_355 : decode cL_comes 355 = .ok (.aload_n 0, 1) := by decide +kernel
theorem dL_comes_356 : decode cL_comes 356 = .ok (.iconst 2, 1) := by decide +kernel
theorem dL_comes_357 : decode cL_comes 357 = .ok (.invokevirtual 46, 3) := by decide +kernel
theorem dL_comes_360 : decode cL_comes 360 = .ok (.if_icmp .ne 20, 3) := by decide +kernel
theorem dL_comes_363 : decode cL_comes 363 = .ok (.aload_n 0, 1) := by decide +kernel
theorem dL_comes_364 : decode cL_comes 364 = .ok (.iconst 3, 1) := by decide +kernel
theorem dL_comes_365 : decode cL_comes 365 = .ok (.invokevirtual 46, 3) := by decide +kernel
theorem dL_comes_368 : decode cL_comes 368 = .ok (.iload 8, 2) := by decide +kernel
theorem dL_comes_370 : decode cL_comes 370 = .ok (.if_icmp .ne 10, 3) := by decide +kernel
theorem dL_comes_373 : decode cL_comes 373 = .ok (.aload_n 0, 1) := by decide +kernel
theorem dL_comes_374 : decode cL_comes 374 = .ok (.invokestatic 77, 3) := by decide +kernel
theorem dL_comes_377 : decode cL_comes 377 = .ok (.ifCond .ne 10, 3) := by decide +kernel
theorem dL_comes_380 : decode cL_comes 380 = .ok (.iload 9, 2) := by decide +kernel
theorem dL_comes_382 : decode cL_comes 382 = .ok (.bipush (-3), 2) := by decide +kernel
theorem dL_comes_384 : decode cL_comes 384 = .ok (.if_icmp .ne 28, 3) := by decide +kernel
theorem dL_comes_387 : decode cL_comes 387 = .ok (.iload 9, 2) := by decide +kernel
theorem dL_comes_389 : decode cL_comes 389 = .ok (.ifCond .lt 10, 3) := by decide +kernel
theorem dL_comes_392 : decode cL_comes 392 = .ok (.aload_n 0, 1) := by decide +kernel
theorem dL_comes_393 : decode cL_comes 393 = .ok (.invokevirtual 80, 3) := by decide +kernel
theorem dL_comes_396 : decode cL_comes 396 = .ok (.ifCond .lt 16, 3) := by decide +kernel
theorem dL_comes_399 : decode cL_comes 399 = .ok (.aload_n 0, 1) := by decide +kernel
theorem dL_comes_400 : decode cL_comes 400 = .ok (.invokestatic 64, 3) := by decide +kernel
theorem dL_comes_403 : decode cL_comes 403 = .ok (.lload_n 2, 1) := by decide +kernel
theorem dL_comes_404 : decode cL_comes 404 = .ok (.lcmp, 1) := by decide +kernel
theorem dL_comes_405 : decode cL_comes 405 = .ok (.ifCond .ne 7, 3) := by decide +kernel
theorem dL_comes_408 : decode cL_comes 408 = .ok (.iconst 1, 1) := by decide +kernel
theorem dL_comes_409 : decode cL_comes 409 = .ok (.goto 4, 3) := by decide +kernel
theorem dL_comes_412 : decode cL_comes 412 = .ok (.iconst 0, 1) := by decide +kernel
theorem dL_comes_413 : decode cL_comes 413 = .ok (.ireturn, 1) := by decide +kernel
theorem dL_keeps_0 : decode cL_keeps 0 = .ok (.aload_n 0, 1) := by decide +kernel
theorem dL_keeps_1 : decode cL_keeps 1 = .ok (.invokestatic 64, 3) := by decide +kernel
theorem dL_keeps_4 : decode cL_keeps 4 = .ok (.lstore 4, 2) := by decide +kernel
theorem dL_keeps_6 : decode cL_keeps 6 = .ok (.aload_n 0, 1) := by decide +kernel
theorem dL_keeps_7 : decode cL_keeps 7 = .ok (.iload_n 1, 1) := by decide +kernel
theorem dL_keeps_8 : decode cL_keeps 8 = .ok (.iload_n 2, 1) := by decide +kernel
theorem dL_keeps_9 : decode cL_keeps 9 = .ok (.invokevirtual 83, 3) := by decide +kernel
theorem dL_keeps_12 : decode cL_keeps 12 = .ok (.istore 6, 2) := by decide +kernel
theorem dL_keeps_14 : decode cL_keeps 14 = .ok (.aload_n 0, 1) := by decide +kernel
theorem dL_keeps_15 : decode cL_keeps 15 = .ok (.iload_n 3, 1) := by decide +kernel
theorem dL_keeps_16 : decode cL_keeps 16 = .ok (.iload_n 2, 1) := by decide +kernel
theorem dL_keeps_17 : decode cL_keeps 17 = .ok (.invokevirtual 86, 3) := by decide +kernel
theorem dL_keeps_20 : decode cL_keeps 20 = .ok (.istore 7, 2) := by decide +kernel
theorem dL_keeps_22 : decode cL_keeps 22 = .ok (.aload_n 0, 1) := by decide +kernel
theorem dL_keeps_23 : decode cL_keeps 23 = .ok (.iload_n 2, 1) := by decide +kernel
theorem dL_keeps_24 : decode cL_keeps 24 = .ok (.invokevirtual 68, 3) := by decide +kernel
theorem dL_keeps_27 : decode cL_keeps 27 = .ok (.istore 8, 2) := by decide +kernel
theorem dL_keeps_29 : decode cL_keeps 29 = .ok (.aload_n 0, 1) := by decide +kernel
theorem dL_keeps_30 : decode cL_keeps 30 = .ok (.iconst 1, 1) := by decide +kernel
theorem dL_keeps_31 : decode cL_keeps 31 = .ok (.invokevirtual 46, 3) := by decide +kernel
theorem dL_keeps_34 : decode cL_keeps 34 = .ok (.istore 9, 2) := by decide +kernel
theorem dL_keeps_36 : decode cL_keeps 36 = .ok (.iconst 1, 1) := by decide +kernel
theorem dL_keeps_37 : decode cL_keeps 37 = .ok (.istore 10, 2) := by decide +kernel
theorem dL_keeps_39 : decode cL_keeps 39 = .ok (.iconst 0, 1) := by decide +kernel
theorem dL_keeps_40 : decode cL_keeps 40 = .ok (.istore 11, 2) := by decide +kernel
theorem dL_keeps_42 : decode cL_keeps 42 = .ok (.iload 11, 2) := by decide +kernel
theorem dL_keeps_44 : decode cL_keeps 44 = .ok (.iconst 2, 1) := by decide +kernel
theorem dL_keeps_45 : decode cL_keeps 45 = .ok (.if_icmp .ge 126, 3) := by decide +kernel
theorem dL_keeps_48 : decode cL_keeps 48 = .ok (.iload 10, 2) := by decide +kernel
theorem dL_keeps_50 : decode cL_keeps 50 = .ok (.ifCond .eq 121, 3) := by decide +kernel
theorem dL_keeps_53 : decode cL_keeps 53 = .ok (.iload 6, 2) := by decide +kernel
theorem dL_keeps_55 : decode cL_keeps 55 = .ok (.ifCond .ge 8, 3) := by decide +kernel
theorem dL_keeps_58 : decode cL_keeps 58 = .ok (.bipush 99, 2) := by decide +kernel
theorem dL_keeps_60 : decode cL_keeps 60 = .ok (.goto 8, 3) := by decide +kernel
theorem dL_keeps_63 : decode cL_keeps 63 = .ok (.iload 6, 2) := by decide +kernel
theorem dL_keeps_65 : decode cL_keeps 65 = .ok (.iload 11, 2) := by decide +kernel
theorem dL_keeps_67 : decode cL_keeps 67 = .ok (.isub, 1) := by decide +kernel
theorem dL_keeps_68 : decode cL_keeps 68 = .ok (.istore 12, 2) := by decide +kernel
theorem dL_keeps_70 : decode cL_keeps 70 = .ok (.iload 12, 2) := by decide +kernel
theorem dL_keeps_72 : decode cL_keeps 72 = .ok (.ifCond .ge 8, 3) := by decide +kernel
theorem dL_keeps_75 : decode cL_keeps 75 = .ok (.bipush (-5), 2) := by decide +kernel
theorem dL_keeps_77 : decode cL_keeps 77 = .ok (.goto 9, 3) := by decide +kernel
theorem dL_keeps_80 : decode cL_keeps 80 = .ok (.aload_n 0, 1) := by decide +kernel
theorem dL_keeps_81 : decode cL_keeps 81 = .ok (.iload 12, 2) := by decide +kernel
theorem dL_keeps_83 : decode cL_keeps 83 = .ok (.invokevirtual 24, 3) := by decide +kernel
theorem dL_keeps_86 : decode cL_keeps 86 = .ok (.istore 13, 2) := by decide +kernel
theorem dL_keeps_88 : decode cL_keeps 88 = .ok (.iload 12, 2) := by decide +kernel
theorem dL_keeps_90 : decode cL_keeps 90 = .ok (.ifCond .lt 68, 3) := by decide +kernel
theorem dL_keeps_93 : decode cL_keeps 93 = .ok (.iload 13, 2) := by decide +kernel
theorem dL_keeps_95 : decode cL_keeps 95 = .ok (.iload 9, 2) := by decide +kernel
theorem dL_keeps_97 : decode cL_keeps 97 = .ok (.if_icmp .eq 17, 3) := by decide +kernel
theorem dL_keeps_100 : decode cL_keeps 100 = .ok (.iload 13, 2) := by decide +kernel
theorem dL_keeps_102 : decode cL_keeps 102 = .ok (.bipush (-5), 2) := by decide +kernel
theorem dL_keeps_104 : decode cL_keeps 104 = .ok (.if_icmp .ne 58, 3) := by decide +kernel
theorem dL_keeps_107 : decode cL_keeps 107 = .ok (.iload 12, 2) := by decide +kernel
theorem dL_keeps_109 : decode cL_keeps 109 = .ok (.iload 9, 2) := by decide +kernel
theorem dL_keeps_111 : decode cL_keeps 111 = .ok (.if_icmp .ne 51, 3) := by decide +kernel
theorem dL_keeps_114 : decode cL_keeps 114 = .ok (.aload_n 0, 1) := by decide +kernel
theorem dL_keeps_115 : decode cL_keeps 115 = .ok (.iload_n 1, 1) := by decide +kernel
theorem dL_keeps_116 : decode cL_keeps 116 = .ok (.iload_n 2, 1) := by decide +kernel
theorem dL_keeps_117 : decode cL_keeps 117 = .ok (.invokevirtual 71, 3) := by decide +kernel
theorem dL_keeps_120 : decode cL_keeps 120 = .ok (.ifCond .ne 7, 3) := by decide +kernel
theorem dL_keeps_123 : decode cL_keeps 123 = .ok (.iconst 1, 1) := by decide +kernel
theorem dL_keeps_124 : decode cL_keeps 124 = .ok (.goto 4, 3) := by decide +kernel
theorem dL_keeps_127 : decode cL_keeps 127 = .ok (.iconst 0, 1) := by decide +kernel
theorem dL_keeps_128 : decode cL_keeps 128 = .ok (.iload 6, 2) := by decide +kernel
theorem dL_keeps_130 : decode cL_keeps 130 = .ok (.ifCond .lt 12, 3) := by decide +kernel
theorem dL_keeps_133 : decode cL_keeps 133 = .ok (.iload 11, 2) := by decide +kernel
theorem dL_keeps_135 : decode cL_keeps 135 = .ok (.ifCond .ne 7, 3) := by decide +kernel
theorem dL_keeps_138 : decode cL_keeps 138 = .ok (.iconst 1, 1) := by decide +kernel
theorem dL_keeps_139 : decode cL_keeps 139 = .ok (.goto 4, 3) := by decide +kernel
theorem dL_keeps_142 : decode cL_keeps 142 = .ok (.iconst 0, 1) := by decide +kernel
theorem dL_keeps_143 : decode cL_keeps 143 = .ok (.if_icmp .ne 19, 3) := by decide +kernel
theorem dL_keeps_146 : decode cL_keeps 146 = .ok (.iload 13, 2) := by decide +kernel
theorem dL_keeps_148 : decode cL_keeps 148 = .ok (.ifCond .lt 10, 3) := by decide +kernel
theorem dL_keeps_151 : decode cL_keeps 151 = .ok (.aload_n 0, 1) := by decide +kernel
theorem dL_keeps_152 : decode cL_keeps 152 = .ok (.invokevirtual 80, 3) := by decide +kernel
theorem dL_keeps_155 : decode cL_keeps 155 = .ok (.ifCond .lt 7, 3) := by decide +kernel
theorem dL_keeps_158 : decode cL_keeps 158 = .ok (.iconst 1, 1) := by decide +kernel
theorem dL_keeps_159 : decode cL_keeps 159 = .ok (.goto 4, 3) := by decide +kernel
theorem dL_keeps_162 : decode cL_keeps 162 = .ok (.iconst 0, 1) := by decide +kernel
theorem dL_keeps_163 : decode cL_keeps 163 = .ok (.istore 10, 2) := by decide +kernel
theorem dL_keeps_165 : decode cL_keeps 165 = .ok (.iinc 11 1, 3) := by decide +kernel
theorem dL_keeps_168 : decode cL_keeps 168 = .ok (.goto (-126), 3) := by decide +kernel
theorem dL_keeps_171 : decode cL_keeps 171 = .ok (.iload 10, 2) := by decide +kernel
theorem dL_keeps_173 : decode cL_keeps 173 = .ok (.ifCond .eq 66, 3) := by decide +kernel
theorem dL_keeps_176 : decode cL_keeps 176 = .ok (.iload 7, 2) := by decide +kernel
theorem dL_keeps_178 : decode cL_keeps 178 = .ok (.ifCond .lt 61, 3) := by decide +kernel
theorem dL_keeps_181 : decode cL_keeps 181 = .ok (.aload_n 0, 1) := by decide +kernel
theorem dL_keeps_182 : decode cL_keeps 182 = .ok (.iload 7, 2) := by decide +kernel
theorem dL_keeps_184 : decode cL_keeps 184 = .ok (.iload_n 3, 1) := by decide +kernel
theorem dL_keeps_185 : decode cL_keeps 185 = .ok (.invokevirtual 21, 3) := by decide +kernel
theorem dL_keeps_188 : decode cL_keeps 188 = .ok (.istore 11, 2) := by decide +kernel
theorem dL_keeps_190 : decode cL_keeps 190 = .ok (.aload_n 0, 1) := by decide +kernel
theorem dL_keeps_191 : decode cL_keeps 191 = .ok (.iload_n 2, 1) := by decide +kernel
theorem dL_keeps_192 : decode cL_keeps 192 = .ok (.invokevirtual 68, 3) := by decide +kernel
theorem dL_keeps_195 : decode cL_keeps 195 = .ok (.istore 12, 2) := by decide +kernel
theorem dL_keeps_197 : decode cL_keeps 197 = .ok (.iload 11, 2) := by decide +kernel
theorem dL_keeps_199 : decode cL_keeps 199 = .ok (.ifCond .lt 37, 3) := by decide +kernel
theorem dL_keeps_202 : decode cL_keeps 202 = .ok (.iload 11, 2) := by decide +kernel
theorem dL_keeps_204 : decode cL_keeps 204 = .ok (.iload_n 3, 1) := by decide +kernel
theorem dL_keeps_205 : decode cL_keeps 205 = .ok (.if_icmp .ge 31, 3) := by decide +kernel
theorem dL_keeps_208 : decode cL_keeps 208 = .ok (.iload 12, 2) := by decide +kernel
theorem dL_keeps_210 : decode cL_keeps 210 = .ok (.ifCond .lt 26, 3) := by decide +kernel
theorem dL_keeps_213 : decode cL_keeps 213 = .ok (.iload 8, 2) := by decide +kernel
theorem dL_keeps_215 : decode cL_keeps 215 = .ok (.ifCond .lt 10, 3) := by decide +kernel
theorem dL_keeps_218 : decode cL_keeps 218 = .ok (.iload 12, 2) := by decide +kernel
theorem dL_keeps_220 : decode cL_keeps 220 = .ok (.iload 8, 2) := by decide +kernel
theorem dL_keeps_222 : decode cL_keeps 222 = .ok (.if_icmp .ge 14, 3) := by decide +kernel
theorem dL_keeps_225 : decode cL_keeps 225 = .ok (.aload_n 0, 1) := by decide +kernel
theorem dL_keeps_226 : decode cL_keeps 226 = .ok (.invokevirtual 80, 3) := by decide +kernel
theorem dL_keeps_229 : decode cL_keeps 229 = .ok (.ifCond .lt 7, 3) := by decide +kernel
theorem dL_keeps_232 : decode cL_keeps 232 = .ok (.iconst 1, 1) := by decide +kernel
theorem dL_keeps_233 : decode cL_keeps 233 = .ok (.goto 4, 3) := by decide +kernel
theorem dL_keeps_236 : decode cL_keeps 236 = .ok (.iconst 0, 1) := by decide +kernel
theorem dL_keeps_237 : decode cL_keeps 237 = .ok (.istore 10, 2) := by decide +kernel
theorem dL_keeps_239 : decode cL_keeps 239 = .ok (.iload 10, 2) := by decide +kernel
theorem dL_keeps_241 : decode cL_keeps 241 = .ok (.ifCond .eq 17, 3) := by decide +kernel
theorem dL_keeps_244 : decode cL_keeps 244 = .ok (.aload_n 0, 1) := by decide +kernel
theorem dL_keeps_245 : decode cL_keeps 245 = .ok (.invokestatic 64, 3) := by decide +kernel
theorem dL_keeps_248 : decode cL_keeps 248 = .ok (.lload 4, 2) := by decide +kernel
theorem dL_keeps_250 : decode cL_keeps 250 = .ok (.lcmp, 1) := by decide +kernel
theorem dL_keeps_251 : decode cL_keeps 251 = .ok (.ifCond .ne 7, 3) := by decide +kernel
theorem dL_keeps_254 : decode cL_keeps 254 = .ok (.iconst 1, 1) := by decide +kernel
theorem dL_keeps_255 : decode cL_keeps 255 = .ok (.goto 4, 3) := by decide +kernel
theorem dL_keeps_258 : decode cL_keeps 258 = .ok (.iconst 0, 1) := by decide +kernel
theorem dL_keeps_259 : decode cL_keeps 259 = .ok (.ireturn, 1) := by decide +kernel
theorem dL_rests_0 : decode cL_rests 0 = .ok (.aload_n 0, 1) := by decide +kernel
theorem dL_rests_1 : decode cL_rests 1 = .ok (.iload_n 1, 1) := by decide +kernel
theorem dL_rests_2 : decode cL_rests 2 = .ok (.iload_n 2, 1) := by decide +kernel
theorem dL_rests_3 : decode cL_rests 3 = .ok (.invokevirtual 89, 3) := by decide +kernel
theorem dL_rests_6 : decode cL_rests 6 = .ok (.istore_n 3, 1) := by decide +kernel
theorem dL_rests_7 : decode cL_rests 7 = .ok (.iload_n 1, 1) := by decide +kernel
theorem dL_rests_8 : decode cL_rests 8 = .ok (.aload_n 0, 1) := by decide +kernel
theorem dL_rests_9 : decode cL_rests 9 = .ok (.iconst 4, 1) := by decide +kernel
theorem dL_rests_10 : decode cL_rests 10 = .ok (.invokevirtual 46, 3) := by decide +kernel
theorem dL_rests_13 : decode cL_rests 13 = .ok (.if_icmp .lt 14, 3) := by decide +kernel
theorem dL_rests_16 : decode cL_rests 16 = .ok (.iload_n 3, 1) := by decide +kernel
theorem dL_rests_17 : decode cL_rests 17 = .ok (.iconst (-1), 1) := by decide +kernel
theorem dL_rests_18 : decode cL_rests 18 = .ok (.if_icmp .ne 7, 3) := by decide +kernel
theorem dL_rests_21 : decode cL_rests 21 = .ok (.iconst 1, 1) := by decide +kernel
theorem dL_rests_22 : decode cL_rests 22 = .ok (.goto 4, 3) := by decide +kernel
theorem dL_rests_25 : decode cL_rests 25 = .ok (.iconst 0, 1) := by decide +kernel
theorem dL_rests_26 : decode cL_rests 26 = .ok (.ireturn, 1) := by decide +kernel
theorem dL_rests_27 : decode cL_rests 27 = .ok (.aload_n 0, 1) := by decide +kernel
theorem dL_rests_28 : decode cL_rests 28 = .ok (.iload_n 1, 1) := by decide +kernel
theorem dL_rests_29 : decode cL_rests 29 = .ok (.iconst 3, 1) := by decide +kernel
theorem dL_rests_30 : decode cL_rests 30 = .ok (.invokevirtual 49, 3) := by decide +kernel
theorem dL_rests_33 : decode cL_rests 33 = .ok (.iconst 1, 1) := by decide +kernel
theorem dL_rests_34 : decode cL_rests 34 = .ok (.if_icmp .ne 15, 3) := by decide +kernel
theorem dL_rests_37 : decode cL_rests 37 = .ok (.iload_n 3, 1) := by decide +kernel
theorem dL_rests_38 : decode cL_rests 38 = .ok (.bipush (-4), 2) := by decide +kernel
theorem dL_rests_40 : decode cL_rests 40 = .ok (.if_icmp .ne 7, 3) := by decide +kernel
theorem dL_rests_43 : decode cL_rests 43 = .ok (.iconst 1, 1) := by decide +kernel
theorem dL_rests_44 : decode cL_rests 44 = .ok (.goto 4, 3) := by decide +kernel
theorem dL_rests_47 : decode cL_rests 47 = .ok (.iconst 0, 1) := by decide +kernel
theorem dL_rests_48 : decode cL_rests 48 = .ok (.ireturn, 1) := by decide +kernel
theorem dL_rests_49 : decode cL_rests 49 = .ok (.aload_n 0, 1) := by decide +kernel
theorem dL_rests_50 : decode cL_rests 50 = .ok (.invokestatic 64, 3) := by decide +kernel
theorem dL_rests_53 : decode cL_rests 53 = .ok (.lstore 4, 2) := by decide +kernel
theorem dL_rests_55 : decode cL_rests 55 = .ok (.aload_n 0, 1) := by decide +kernel
theorem dL_rests_56 : decode cL_rests 56 = .ok (.invokevirtual 92, 3) := by decide +kernel
theorem dL_rests_59 : decode cL_rests 59 = .ok (.istore 6, 2) := by decide +kernel
theorem dL_rests_61 : decode cL_rests 61 = .ok (.aload_n 0, 1) := by decide +kernel
theorem dL_rests_62 : decode cL_rests 62 = .ok (.iload_n 1, 1) := by decide +kernel
theorem dL_rests_63 : decode cL_rests 63 = .ok (.bipush 6, 2) := by decide +kernel
theorem dL_rests_65 : decode cL_rests 65 = .ok (.invokevirtual 49, 3) := by decide +kernel
theorem dL_rests_68 : decode cL_rests 68 = .ok (.istore 7, 2) := by decide +kernel
theorem dL_rests_70 : decode cL_rests 70 = .ok (.iload_n 3, 1) := by decide +kernel
theorem dL_rests_71 : decode cL_rests 71 = .ok (.bipush (-5), 2) := by decide +kernel
theorem dL_rests_73 : decode cL_rests 73 = .ok (.if_icmp .eq 14, 3) := by decide +kernel
theorem dL_rests_76 : decode cL_rests 76 = .ok (.iload_n 3, 1) := by decide +kernel
theorem dL_rests_77 : decode cL_rests 77 = .ok (.ifCond .le 14, 3) := by decide +kernel
theorem dL_rests_80 : decode cL_rests 80 = .ok (.iload_n 3, 1) := by decide +kernel
theorem dL_rests_81 : decode cL_rests 81 = .ok (.sipush 300, 3) := by decide +kernel
theorem dL_rests_84 : decode cL_rests 84 = .ok (.if_icmp .gt 7, 3) := by decide +kernel
theorem dL_rests_87 : decode cL_rests 87 = .ok (.iconst 1, 1) := by decide +kernel
theorem dL_rests_88 : decode cL_rests 88 = .ok (.goto 4, 3) := by decide +kernel
theorem dL_rests_91 : decode cL_rests 91 = .ok (.iconst 0, 1) := by decide +kernel
theorem dL_rests_92 : decode cL_rests 92 = .ok (.istore 8, 2) := by decide +kernel
theorem dL_rests_94 : decode cL_rests 94 = .ok (.iload_n 3, 1) := by decide +kernel
theorem dL_rests_95 : decode cL_rests 95 = .ok (.iconst 1, 1) := by decide +kernel
theorem dL_rests_96 : decode cL_rests 96 = .ok (.isub, 1) := by decide +kernel
theorem dL_rests_97 : decode cL_rests 97 = .ok (.istore 9, 2) := by decide +kernel
theorem dL_rests_99 : decode cL_rests 99 = .ok (.iload 9, 2) := by decide +kernel
theorem dL_rests_101 : decode cL_rests 101 = .ok (.ifCond .le 59, 3) := by decide +kernel
theorem dL_rests_104 : decode cL_rests 104 = .ok (.iload 8, 2) := by decide +kernel
theorem dL_rests_106 : decode cL_rests 106 = .ok (.ifCond .eq 54, 3) := by decide +kernel
theorem dL_rests_109 : decode cL_rests 109 = .ok (.aload_n 0, 1) := by decide +kernel
theorem dL_rests_110 : decode cL_rests 110 = .ok (.iload_n 2, 1) := by decide +kernel
theorem dL_rests_111 : decode cL_rests 111 = .ok (.iload 9, 2) := by decide +kernel
theorem dL_rests_113 : decode cL_rests 113 = .ok (.bipush 99, 2) := by decide +kernel
theorem dL_rests_115 : decode cL_rests 115 = .ok (.if_icmp .le 8, 3) := by decide +kernel
theorem dL_rests_118 : decode cL_rests 118 = .ok (.bipush 99, 2) := by decide +kernel
theorem dL_rests_120 : decode cL_rests 120 = .ok (.goto 5, 3) := by decide +kernel
theorem dL_rests_123 : decode cL_rests 123 = .ok (.iload 9, 2) := by decide +kernel
theorem dL_rests_125 : decode cL_rests 125 = .ok (.invokevirtual 40, 3) := by decide +kernel
theorem dL_rests_128 : decode cL_rests 128 = .ok (.ifCond .lt 7, 3) := by decide +kernel
theorem dL_rests_131 : decode cL_rests 131 = .ok (.iconst 1, 1) := by decide +kernel
theorem dL_rests_132 : decode cL_rests 132 = .ok (.goto 4, 3) := by decide +kernel
theorem dL_rests_135 : decode cL_rests 135 = .ok (.iconst 0, 1) := by decide +kernel
theorem dL_rests_136 : decode cL_rests 136 = .ok (.istore 8, 2) := by decide +kernel
theorem dL_rests_138 : decode cL_rests 138 = .ok (.iload 9, 2) := by decide +kernel
theorem dL_rests_140 : decode cL_rests 140 = .ok (.iload 9, 2) := by decide +kernel
theorem dL_rests_142 : decode cL_rests 142 = .ok (.bipush 99, 2) := by decide +kernel
theorem dL_rests_144 : decode cL_rests 144 = .ok (.if_icmp .le 8, 3) := by decide +kernel
theorem dL_rests_147 : decode cL_rests 147 = .ok (.bipush 99, 2) := by decide +kernel
theorem dL_rests_149 : decode cL_rests 149 = .ok (.goto 5, 3) := by decide +kernel
theorem dL_rests_152 : decode cL_rests 152 = .ok (.iload 9, 2) := by decide +kernel
theorem dL_rests_154 : decode cL_rests 154 = .ok (.isub, 1) := by decide +kernel
theorem dL_rests_155 : decode cL_rests 155 = .ok (.istore 9, 2) := by decide +kernel
theorem dL_rests_157 : decode cL_rests 157 = .ok (.goto (-58), 3) := by decide +kernel
theorem dL_rests_160 : decode cL_rests 160 = .ok (.iload 8, 2) := by decide +kernel
theorem dL_rests_162 : decode cL_rests 162 = .ok (.ifCond .eq 75, 3) := by decide +kernel
theorem dL_rests_165 : decode cL_rests 165 = .ok (.aload_n 0, 1) := by decide +kernel
theorem dL_rests_166 : decode cL_rests 166 = .ok (.iload_n 1, 1) := by decide +kernel
theorem dL_rests_167 : decode cL_rests 167 = .ok (.iconst 3, 1) := by decide +kernel
theorem dL_rests_168 : decode cL_rests 168 = .ok (.invokevirtual 49, 3) := by decide +kernel
theorem dL_rests_171 : decode cL_rests 171 = .ok (.ifCond .ne 66, 3) := by decide +kernel
theorem dL_rests_174 : decode cL_rests 174 = .ok (.aload_n 0, 1) := by decide +kernel
theorem dL_rests_175 : decode cL_rests 175 = .ok (.iload_n 1, 1) := by decide +kernel
theorem dL_rests_176 : decode cL_rests 176 = .ok (.bipush 6, 2) := by decide +kernel
theorem dL_rests_178 : decode cL_rests 178 = .ok (.invokevirtual 49, 3) := by decide +kernel
theorem dL_rests_181 : decode cL_rests 181 = .ok (.iload 7, 2) := by decide +kernel
theorem dL_rests_183 : decode cL_rests 183 = .ok (.if_icmp .ne 54, 3) := by decide +kernel
theorem dL_rests_186 : decode cL_rests 186 = .ok (.iload_n 3, 1) := by decide +kernel
theorem dL_rests_187 : decode cL_rests 187 = .ok (.ifCond .lt 46, 3) := by decide +kernel
theorem dL_rests_190 : decode cL_rests 190 = .ok (.aload_n 0, 1) := by decide +kernel
theorem dL_rests_191 : decode cL_rests 191 = .ok (.iload_n 1, 1) := by decide +kernel
theorem dL_rests_192 : decode cL_rests 192 = .ok (.iload_n 2, 1) := by decide +kernel
theorem dL_rests_193 : decode cL_rests 193 = .ok (.invokevirtual 89, 3) := by decide +kernel
theorem dL_rests_196 : decode cL_rests 196 = .ok (.iconst 1, 1) := by decide +kernel
theorem dL_rests_197 : decode cL_rests 197 = .ok (.if_icmp .ne 40, 3) := by decide +kernel
theorem dL_rests_200 : decode cL_rests 200 = .ok (.aload_n 0, 1) := by decide +kernel
theorem dL_rests_201 : decode cL_rests 201 = .ok (.iload_n 2, 1) := by decide +kernel
theorem dL_rests_202 : decode cL_rests 202 = .ok (.iconst 1, 1) := by decide +kernel
theorem dL_rests_203 : decode cL_rests 203 = .ok (.invokevirtual 40, 3) := by decide +kernel
theorem dL_rests_206 : decode cL_rests 206 = .ok (.ifCond .lt 31, 3) := by decide +kernel
theorem dL_rests_209 : decode cL_rests 209 = .ok (.aload_n 0, 1) := by decide +kernel
theorem dL_rests_210 : decode cL_rests 210 = .ok (.iload_n 1, 1) := by decide +kernel
theorem dL_rests_211 : decode cL_rests 211 = .ok (.iconst 3, 1) := by decide +kernel
theorem dL_rests_212 : decode cL_rests 212 = .ok (.invokevirtual 49, 3) := by decide +kernel
theorem dL_rests_215 : decode cL_rests 215 = .ok (.iconst 1, 1) := by decide +kernel
theorem dL_rests_216 : decode cL_rests 216 = .ok (.if_icmp .ne 21, 3) := by decide +kernel
theorem dL_rests_219 : decode cL_rests 219 = .ok (.aload_n 0, 1) := by decide +kernel
theorem dL_rests_220 : decode cL_rests 220 = .ok (.iload_n 1, 1) := by decide +kernel
theorem dL_rests_221 : decode cL_rests 221 = .ok (.bipush 6, 2) := by decide +kernel
theorem dL_rests_223 : decode cL_rests 223 = .ok (.invokevirtual 49, 3) := by decide +kernel
theorem dL_rests_226 : decode cL_rests 226 = .ok (.iload 7, 2) := by decide +kernel
theorem dL_rests_228 : decode cL_rests 228 = .ok (.iconst 1, 1) := by decide +kernel
theorem dL_rests_229 : decode cL_rests 229 = .ok (.iadd, 1) := by decide +kernel
theorem dL_rests_230 : decode cL_rests 230 = .ok (.if_icmp .ne 7, 3) := by decide +kernel
theorem dL_rests_233 : decode cL_rests 233 = .ok (.iconst 1, 1) := by decide +kernel
theorem dL_rests_234 : decode cL_rests 234 = .ok (.goto 4, 3) := by decide +kernel
theorem dL_rests_237 : decode cL_rests 237 = .ok (.iconst 0, 1) := by decide +kernel
theorem dL_rests_238 : decode cL_rests 238 = .ok (.istore 8, 2) := by decide +kernel
theorem dL_rests_240 : decode cL_rests 240 = .ok (.iload 8, 2) := by decide +kernel
theorem dL_rests_242 : decode cL_rests 242 = .ok (.ifCond .eq 26, 3) := by decide +kernel
theorem dL_rests_245 : decode cL_rests 245 = .ok (.aload_n 0, 1) := by decide +kernel
theorem dL_rests_246 : decode cL_rests 246 = .ok (.invokevirtual 95, 3) := by decide +kernel
theorem dL_rests_249 : decode cL_rests 249 = .ok (.iload 6, 2) := by decide +kernel
theorem dL_rests_251 : decode cL_rests 251 = .ok (.if_icmp .ne 17, 3) := by decide +kernel
theorem dL_rests_254 : decode cL_rests 254 = .ok (.aload_n 0, 1) := by decide +kernel
theorem dL_rests_255 : decode cL_rests 255 = .ok (.invokestatic 64, 3) := by decide +kernel
theorem dL_rests_258 : decode cL_rests 258 = .ok (.lload 4, 2) := by decide +kernel
theorem dL_rests_260 : decode cL_rests 260 = .ok (.lcmp, 1) := by decide +kernel
theorem dL_rests_261 : decode cL_rests 261 = .ok (.ifCond .ne 7, 3) := by decide +kernel
theorem dL_rests_264 : decode cL_rests 264 = .ok (.iconst 1, 1) := by decide +kernel
theorem dL_rests_265 : decode cL_rests 265 = .ok (.goto 4, 3) := by decide +kernel
theorem dL_rests_268 : decode cL_rests 268 = .ok (.iconst 0, 1) := by decide +kernel
theorem dL_rests_269 : decode cL_rests 269 = .ok (.ireturn, 1) := by decide +kernel
theorem dL_law_0 : decode cL_law 0 = .ok (.new 17, 3) := by decide +kernel
theorem dL_law_3 : decode cL_law 3 = .ok (.dup, 1) := by decide +kernel
theorem dL_law_4 : decode cL_law 4 = .ok (.invokespecial 98, 3) := by decide +kernel
theorem dL_law_7 : decode cL_law 7 = .ok (.astore_n 1, 1) := by decide +kernel
theorem dL_law_8 : decode cL_law 8 = .ok (.aload_n 1, 1) := by decide +kernel
theorem dL_law_9 : decode cL_law 9 = .ok (.invokestatic 77, 3) := by decide +kernel
theorem dL_law_12 : decode cL_law 12 = .ok (.ifCond .eq 15, 3) := by decide +kernel
theorem dL_law_15 : decode cL_law 15 = .ok (.aload_n 1, 1) := by decide +kernel
theorem dL_law_16 : decode cL_law 16 = .ok (.iconst 5, 1) := by decide +kernel
theorem dL_law_17 : decode cL_law 17 = .ok (.invokestatic 99, 3) := by decide +kernel
theorem dL_law_20 : decode cL_law 20 = .ok (.ifCond .eq 7, 3) := by decide +kernel
theorem dL_law_23 : decode cL_law 23 = .ok (.iconst 1, 1) := by decide +kernel
theorem dL_law_24 : decode cL_law 24 = .ok (.goto 4, 3) := by decide +kernel
theorem dL_law_27 : decode cL_law 27 = .ok (.iconst 0, 1) := by decide +kernel
theorem dL_law_28 : decode cL_law 28 = .ok (.istore_n 2, 1) := by decide +kernel
theorem dL_law_29 : decode cL_law 29 = .ok (.iconst 0, 1) := by decide +kernel
theorem dL_law_30 : decode cL_law 30 = .ok (.istore_n 3, 1) := by decide +kernel
theorem dL_law_31 : decode cL_law 31 = .ok (.iload_n 3, 1) := by decide +kernel
theorem dL_law_32 : decode cL_law 32 = .ok (.bipush 44, 2) := by decide +kernel
theorem dL_law_34 : decode cL_law 34 = .ok (.if_icmp .ge 328, 3) := by decide +kernel
theorem dL_law_37 : decode cL_law 37 = .ok (.iload_n 2, 1) := by decide +kernel
theorem dL_law_38 : decode cL_law 38 = .ok (.ifCond .eq 324, 3) := by decide +kernel
theorem dL_law_41 : decode cL_law 41 = .ok (.aload_n 0, 1) := by decide +kernel
theorem dL_law_42 : decode cL_law 42 = .ok (.iconst 2, 1) := by decide +kernel
theorem dL_law_43 : decode cL_law 43 = .ok (.iload_n 3, 1) := by decide +kernel
theorem dL_law_44 : decode cL_law 44 = .ok (.imul, 1) := by decide +kernel
theorem dL_law_45 : decode cL_law 45 = .ok (.invokestatic 103, 3) := by decide +kernel
theorem dL_law_48 : decode cL_law 48 = .ok (.istore 4, 2) := by decide +kernel
theorem dL_law_50 : decode cL_law 50 = .ok (.aload_n 0, 1) := by decide +kernel
theorem dL_law_51 : decode cL_law 51 = .ok (.iconst 2, 1) := by decide +kernel
theorem dL_law_52 : decode cL_law 52 = .ok (.iload_n 3, 1) := by decide +kernel
theorem dL_law_53 : decode cL_law 53 = .ok (.imul, 1) := by decide +kernel
theorem dL_law_54 : decode cL_law 54 = .ok (.iconst 1, 1) := by decide +kernel
theorem dL_law_55 : decode cL_law 55 = .ok (.iadd, 1) := by decide +kernel
theorem dL_law_56 : decode cL_law 56 = .ok (.invokestatic 103, 3) := by decide +kernel
theorem dL_law_59 : decode cL_law 59 = .ok (.istore 5, 2) := by decide +kernel
theorem dL_law_61 : decode cL_law 61 = .ok (.aload_n 1, 1) := by decide +kernel
theorem dL_law_62 : decode cL_law 62 = .ok (.bipush 12, 2) := by decide +kernel
theorem dL_law_64 : decode cL_law 64 = .ok (.invokevirtual 46, 3) := by decide +kernel
theorem dL_law_67 : decode cL_law 67 = .ok (.istore 6, 2) := by decide +kernel
theorem dL_law_69 : decode cL_law 69 = .ok (.aload_n 1, 1) := by decide +kernel
theorem dL_law_70 : decode cL_law 70 = .ok (.invokestatic 64, 3) := by decide +kernel
theorem dL_law_73 : decode cL_law 73 = .ok (.lstore 7, 2) := by decide +kernel
theorem dL_law_75 : decode cL_law 75 = .ok (.iload_n 3, 1) := by decide +kernel
theorem dL_law_76 : decode cL_law 76 = .ok (.iconst 3, 1) := by decide +kernel
theorem dL_law_77 : decode cL_law 77 = .ok (.if_icmp .ge 25, 3) := by decide +kernel
theorem dL_law_80 : decode cL_law 80 = .ok (.aload_n 1, 1) := by decide +kernel
theorem dL_law_81 : decode cL_law 81 = .ok (.iload 4, 2) := by decide +kernel
theorem dL_law_83 : decode cL_law 83 = .ok (.iconst 5, 1) := by decide +kernel
theorem dL_law_84 : decode cL_law 84 = .ok (.invokestatic 10, 3) := by decide +kernel
theorem dL_law_87 : decode cL_law 87 = .ok (.iconst 1, 1) := by decide +kernel
theorem dL_law_88 : decode cL_law 88 = .ok (.iload 5, 2) := by decide +kernel
theorem dL_law_90 : decode cL_law 90 = .ok (.bipush 30, 2) := by decide +kernel
theorem dL_law_92 : decode cL_law 92 = .ok (.invokestatic 10, 3) := by decide +kernel
theorem dL_law_95 : decode cL_law 95 = .ok (.iadd, 1) := by decide +kernel
theorem dL_law_96 : decode cL_law 96 = .ok (.invokevirtual 31, 3) := by decide +kernel
theorem dL_law_99 : decode cL_law 99 = .ok (.goto 11, 3) := by decide +kernel
theorem dL_law_102 : decode cL_law 102 = .ok (.aload_n 1, 1) := by decide +kernel
theorem dL_law_103 : decode cL_law 103 = .ok (.iload 4, 2) := by decide +kernel
theorem dL_law_105 : decode cL_law 105 = .ok (.iload 5, 2) := by decide +kernel
theorem dL_law_107 : decode cL_law 107 = .ok (.invokestatic 106, 3) := by decide +kernel
theorem dL_law_110 : decode cL_law 110 = .ok (.istore 9, 2) := by decide +kernel
theorem dL_law_112 : decode cL_law 112 = .ok (.iload 9, 2) := by decide +kernel
theorem dL_law_114 : decode cL_law 114 = .ok (.ifCond .ge 33, 3) := by decide +kernel
theorem dL_law_117 : decode cL_law 117 = .ok (.aload_n 1, 1) := by decide +kernel
theorem dL_law_118 : decode cL_law 118 = .ok (.bipush 12, 2) := by decide +kernel
theorem dL_law_120 : decode cL_law 120 = .ok (.invokevirtual 46, 3) := by decide +kernel
theorem dL_law_123 : decode cL_law 123 = .ok (.iload 6, 2) := by decide +kernel
theorem dL_law_125 : decode cL_law 125 = .ok (.if_icmp .ne 17, 3) := by decide +kernel
theorem dL_law_128 : decode cL_law 128 = .ok (.aload_n 1, 1) := by decide +kernel
theorem dL_law_129 : decode cL_law 129 = .ok (.invokestatic 64, 3) := by decide +kernel
theorem dL_law_132 : decode cL_law 132 = .ok (.lload 7, 2) := by decide +kernel
theorem dL_law_134 : decode cL_law 134 = .ok (.lcmp, 1) := by decide +kernel
theorem dL_law_135 : decode cL_law 135 = .ok (.ifCond .ne 7, 3) := by decide +kernel
theorem dL_law_138 : decode cL_law 138 = .ok (.iconst 1, 1) := by decide +kernel
theorem dL_law_139 : decode cL_law 139 = .ok (.goto 4, 3) := by decide +kernel
theorem dL_law_142 : decode cL_law 142 = .ok (.iconst 0, 1) := by decide +kernel
theorem dL_law_143 : decode cL_law 143 = .ok (.istore_n 2, 1) := by decide +kernel
theorem dL_law_144 : decode cL_law 144 = .ok (.goto 100, 3) := by decide +kernel
theorem dL_law_147 : decode cL_law 147 = .ok (.aload_n 1, 1) := by decide +kernel
theorem dL_law_148 : decode cL_law 148 = .ok (.bipush 12, 2) := by decide +kernel
theorem dL_law_150 : decode cL_law 150 = .ok (.invokevirtual 46, 3) := by decide +kernel
theorem dL_law_153 : decode cL_law 153 = .ok (.iload 6, 2) := by decide +kernel
theorem dL_law_155 : decode cL_law 155 = .ok (.iconst 4, 1) := by decide +kernel
theorem dL_law_156 : decode cL_law 156 = .ok (.if_icmp .ge 10, 3) := by decide +kernel
theorem dL_law_159 : decode cL_law 159 = .ok (.iload 6, 2) := by decide +kernel
theorem dL_law_161 : decode cL_law 161 = .ok (.iconst 1, 1) := by decide +kernel
theorem dL_law_162 : decode cL_law 162 = .ok (.iadd, 1) := by decide +kernel
theorem dL_law_163 : decode cL_law 163 = .ok (.goto 4, 3) := by decide +kernel
theorem dL_law_166 : decode cL_law 166 = .ok (.iconst 4, 1) := by decide +kernel
theorem dL_law_167 : decode cL_law 167 = .ok (.if_icmp .ne 7, 3) := by decide +kernel
theorem dL_law_170 : decode cL_law 170 = .ok (.iconst 1, 1) := by decide +kernel
theorem dL_law_171 : decode cL_law 171 = .ok (.goto 4, 3) := by decide +kernel
theorem dL_law_174 : decode cL_law 174 = .ok (.iconst 0, 1) := by decide +kernel
theorem dL_law_175 : decode cL_law 175 = .ok (.istore_n 2, 1) := by decide +kernel
theorem dL_law_176 : decode cL_law 176 = .ok (.iload_n 2, 1) := by decide +kernel
theorem dL_law_177 : decode cL_law 177 = .ok (.ifCond .eq 67, 3) := by decide +kernel
theorem dL_law_180 : decode cL_law 180 = .ok (.iload_n 3, 1) := by decide +kernel
theorem dL_law_181 : decode cL_law 181 = .ok (.iconst 2, 1) := by decide +kernel
theorem dL_law_182 : decode cL_law 182 = .ok (.if_icmp .le 62, 3) := by decide +kernel
theorem dL_law_185 : decode cL_law 185 = .ok (.iload 5, 2) := by decide +kernel
theorem dL_law_187 : decode cL_law 187 = .ok (.iconst 5, 1) := by decide +kernel
theorem dL_law_188 : decode cL_law 188 = .ok (.ishr, 1) := by decide +kernel
theorem dL_law_189 : decode cL_law 189 = .ok (.iconst 4, 1) := by decide +kernel
theorem dL_law_190 : decode cL_law 190 = .ok (.invokestatic 10, 3) := by decide +kernel
theorem dL_law_193 : decode cL_law 193 = .ok (.ifCond .ne 51, 3) := by decide +kernel
theorem dL_law_196 : decode cL_law 196 = .ok (.aload_n 1, 1) := by decide +kernel
theorem dL_law_197 : decode cL_law 197 = .ok (.invokevirtual 80, 3) := by decide +kernel
theorem dL_law_200 : decode cL_law 200 = .ok (.iload 6, 2) := by decide +kernel
theorem dL_law_202 : decode cL_law 202 = .ok (.iconst 4, 1) := by decide +kernel
theorem dL_law_203 : decode cL_law 203 = .ok (.if_icmp .ge 8, 3) := by decide +kernel
theorem dL_law_206 : decode cL_law 206 = .ok (.iload 6, 2) := by decide +kernel
theorem dL_law_208 : decode cL_law 208 = .ok (.goto 4, 3) := by decide +kernel
theorem dL_law_211 : decode cL_law 211 = .ok (.iconst 3, 1) := by decide +kernel
theorem dL_law_212 : decode cL_law 212 = .ok (.if_icmp .ne 30, 3) := by decide +kernel
theorem dL_law_215 : decode cL_law 215 = .ok (.aload_n 1, 1) := by decide +kernel
theorem dL_law_216 : decode cL_law 216 = .ok (.invokestatic 64, 3) := by decide +kernel
theorem dL_law_219 : decode cL_law 219 = .ok (.lload 7, 2) := by decide +kernel
theorem dL_law_221 : decode cL_law 221 = .ok (.lcmp, 1) := by decide +kernel
theorem dL_law_222 : decode cL_law 222 = .ok (.ifCond .ne 20, 3) := by decide +kernel
theorem dL_law_225 : decode cL_law 225 = .ok (.aload_n 1, 1) := by decide +kernel
theorem dL_law_226 : decode cL_law 226 = .ok (.iload 4, 2) := by decide +kernel
theorem dL_law_228 : decode cL_law 228 = .ok (.iload 5, 2) := by decide +kernel
theorem dL_law_230 : decode cL_law 230 = .ok (.invokestatic 106, 3) := by decide +kernel
theorem dL_law_233 : decode cL_law 233 = .ok (.iload 9, 2) := by decide +kernel
theorem dL_law_235 : decode cL_law 235 = .ok (.if_icmp .ne 7, 3) := by decide +kernel
theorem dL_law_238 : decode cL_law 238 = .ok (.iconst 1, 1) := by decide +kernel
theorem dL_law_239 : decode cL_law 239 = .ok (.goto 4, 3) := by decide +kernel
theorem dL_law_242 : decode cL_law 242 = .ok (.iconst 0, 1) := by decide +kernel
theorem dL_law_243 : decode cL_law 243 = .ok (.istore_n 2, 1) := by decide +kernel
theorem dL_law_244 : decode cL_law 244 = .ok (.iload_n 2, 1) := by decide +kernel
theorem dL_law_245 : decode cL_law 245 = .ok (.ifCond .eq 109, 3) := by decide +kernel
theorem dL_law_248 : decode cL_law 248 = .ok (.aload_n 1, 1) := by decide +kernel
theorem dL_law_249 : decode cL_law 249 = .ok (.invokestatic 77, 3) := by decide +kernel
theorem dL_law_252 : decode cL_law 252 = .ok (.ifCond .eq 102, 3) := by decide +kernel
theorem dL_law_255 : decode cL_law 255 = .ok (.aload_n 1, 1) := by decide +kernel
theorem dL_law_256 : decode cL_law 256 = .ok (.iload 5, 2) := by decide +kernel
theorem dL_law_258 : decode cL_law 258 = .ok (.iconst 3, 1) := by decide +kernel
theorem dL_law_259 : decode cL_law 259 = .ok (.ishr, 1) := by decide +kernel
theorem dL_law_260 : decode cL_law 260 = .ok (.bipush 61, 2) := by decide +kernel
theorem dL_law_262 : decode cL_law 262 = .ok (.invokestatic 10, 3) := by decide +kernel
theorem dL_law_265 : decode cL_law 265 = .ok (.bipush 30, 2) := by decide +kernel
theorem dL_law_267 : decode cL_law 267 = .ok (.isub, 1) := by decide +kernel
theorem dL_law_268 : decode cL_law 268 = .ok (.invokestatic 99, 3) := by decide +kernel
theorem dL_law_271 : decode cL_law 271 = .ok (.ifCond .eq 83, 3) := by decide +kernel
theorem dL_law_274 : decode cL_law 274 = .ok (.aload_n 1, 1) := by decide +kernel
theorem dL_law_275 : decode cL_law 275 = .ok (.iload 4, 2) := by decide +kernel
theorem dL_law_277 : decode cL_law 277 = .ok (.iconst 5, 1) := by decide +kernel
theorem dL_law_278 : decode cL_law 278 = .ok (.ishr, 1) := by decide +kernel
theorem dL_law_279 : decode cL_law 279 = .ok (.bipush 40, 2) := by decide +kernel
theorem dL_law_281 : decode cL_law 281 = .ok (.invokestatic 10, 3) := by decide +kernel
theorem dL_law_284 : decode cL_law 284 = .ok (.iload 5, 2) := by decide +kernel
theorem dL_law_286 : decode cL_law 286 = .ok (.bipush 6, 2) := by decide +kernel
theorem dL_law_288 : decode cL_law 288 = .ok (.ishr, 1) := by decide +kernel
theorem dL_law_289 : decode cL_law 289 = .ok (.bipush 61, 2) := by decide +kernel
theorem dL_law_291 : decode cL_law 291 = .ok (.invokestatic 10, 3) := by decide +kernel
theorem dL_law_294 : decode cL_law 294 = .ok (.bipush 30, 2) := by decide +kernel
theorem dL_law_296 : decode cL_law 296 = .ok (.isub, 1) := by decide +kernel
theorem dL_law_297 : decode cL_law 297 = .ok (.iconst 1, 1) := by decide +kernel
theorem dL_law_298 : decode cL_law 298 = .ok (.iload 4, 2) := by decide +kernel
theorem dL_law_300 : decode cL_law 300 = .ok (.bipush 8, 2) := by decide +kernel
theorem dL_law_302 : decode cL_law 302 = .ok (.ishr, 1) := by decide +kernel
theorem dL_law_303 : decode cL_law 303 = .ok (.bipush 24, 2) := by decide +kernel
theorem dL_law_305 : decode cL_law 305 = .ok (.invokestatic 10, 3) := by decide +kernel
theorem dL_law_308 : decode cL_law 308 = .ok (.iadd, 1) := by decide +kernel
theorem dL_law_309 : decode cL_law 309 = .ok (.invokestatic 110, 3) := by decide +kernel
theorem dL_law_312 : decode cL_law 312 = .ok (.ifCond .eq 42, 3) := by decide +kernel
theorem dL_law_315 : decode cL_law 315 = .ok (.iload_n 3, 1) := by decide +kernel
theorem dL_law_316 : decode cL_law 316 = .ok (.iconst 3, 1) := by decide +kernel
theorem dL_law_317 : decode cL_law 317 = .ok (.irem, 1) := by decide +kernel
theorem dL_law_318 : decode cL_law 318 = .ok (.ifCond .gt 32, 3) := by decide +kernel
theorem dL_law_321 : decode cL_law 321 = .ok (.aload_n 1, 1) := by decide +kernel
theorem dL_law_322 : decode cL_law 322 = .ok (.iload 4, 2) := by decide +kernel
theorem dL_law_324 : decode cL_law 324 = .ok (.bipush 7, 2) := by decide +kernel
theorem dL_law_326 : decode cL_law 326 = .ok (.ishr, 1) := by decide +kernel
theorem dL_law_327 : decode cL_law 327 = .ok (.bipush 6, 2) := by decide +kernel
theorem dL_law_329 : decode cL_law 329 = .ok (.invokestatic 10, 3) := by decide +kernel
theorem dL_law_332 : decode cL_law 332 = .ok (.iload 5, 2) := by decide +kernel
theorem dL_law_334 : decode cL_law 334 = .ok (.iconst 5, 1) := by decide +kernel
theorem dL_law_335 : decode cL_law 335 = .ok (.ishr, 1) := by decide +kernel
theorem dL_law_336 : decode cL_law 336 = .ok (.bipush 61, 2) := by decide +kernel
theorem dL_law_338 : decode cL_law 338 = .ok (.invokestatic 10, 3) := by decide +kernel
theorem dL_law_341 : decode cL_law 341 = .ok (.bipush 30, 2) := by decide +kernel
theorem dL_law_343 : decode cL_law 343 = .ok (.isub, 1) := by decide +kernel
theorem dL_law_344 : decode cL_law 344 = .ok (.invokestatic 114, 3) := by decide +kernel
theorem dL_law_347 : decode cL_law 347 = .ok (.ifCond .eq 7, 3) := by decide +kernel
theorem dL_law_350 : decode cL_law 350 = .ok (.iconst 1, 1) := by decide +kernel
theorem dL_law_351 : decode cL_law 351 = .ok (.goto 4, 3) := by decide +kernel
theorem dL_law_354 : decode cL_law 354 = .ok (.iconst 0, 1) := by decide +kernel
theorem dL_law_355 : decode cL_law 355 = .ok (.istore_n 2, 1) := by decide +kernel
theorem dL_law_356 : decode cL_law 356 = .ok (.iinc 3 1, 3) := by decide +kernel
theorem dL_law_359 : decode cL_law 359 = .ok (.goto (-328), 3) := by decide +kernel
theorem dL_law_362 : decode cL_law 362 = .ok (.iload_n 2, 1) := by decide +kernel
theorem dL_law_363 : decode cL_law 363 = .ok (.ireturn, 1) := by decide +kernel
