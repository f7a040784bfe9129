theorem dX0_init_0 : decode cX0_init 0 = .ok (.aload_n 0, 1) := by decide +kernel
theorem dX0_init_1 : decode cX0_init 1 = .ok (.invokespecial 3, 3) := by decide +kernel
theorem dX0_init_4 : decode cX0_init 4 = .ok (.aload_n 0, 1) := by decide +kernel
theorem dX0_init_5 : decode cX0_init 5 = .ok (.new 9, 3) := by decide +kernel
theorem dX0_init_8 : decode cX0_init 8 = .ok (.dup, 1) := by decide +kernel
theorem dX0_init_9 : decode cX0_init 9 = .ok (.invokespecial 11, 3) := by decide +kernel
theorem dX0_init_12 : decode cX0_init 12 = .ok (.putfield 12, 3) := by decide +kernel
theorem dX0_init_15 : decode cX0_init 15 = .ok (.aload_n 0, 1) := by decide +kernel
theorem dX0_init_16 : decode cX0_init 16 = .ok (.bipush 12, 2) := by decide +kernel
theorem dX0_init_18 : decode cX0_init 18 = .ok (.newarray .boolean, 2) := by decide +kernel
theorem dX0_init_20 : decode cX0_init 20 = .ok (.putfield 18, 3) := by decide +kernel
theorem dX0_init_23 : decode cX0_init 23 = .ok (.aconst_null, 1) := by decide +kernel
theorem dX0_init_24 : decode cX0_init 24 = .ok (.astore_n 1, 1) := by decide +kernel
theorem dX0_init_25 : decode cX0_init 25 = .ok (.bipush 8, 2) := by decide +kernel
theorem dX0_init_27 : decode cX0_init 27 = .ok (.istore_n 2, 1) := by decide +kernel
theorem dX0_init_28 : decode cX0_init 28 = .ok (.iload_n 2, 1) := by decide +kernel
theorem dX0_init_29 : decode cX0_init 29 = .ok (.iconst 1, 1) := by decide +kernel
theorem dX0_init_30 : decode cX0_init 30 = .ok (.if_icmp .le 19, 3) := by decide +kernel
theorem dX0_init_33 : decode cX0_init 33 = .ok (.new 22, 3) := by decide +kernel
theorem dX0_init_36 : decode cX0_init 36 = .ok (.dup, 1) := by decide +kernel
theorem dX0_init_37 : decode cX0_init 37 = .ok (.iload_n 2, 1) := by decide +kernel
theorem dX0_init_38 : decode cX0_init 38 = .ok (.aload_n 1, 1) := by decide +kernel
theorem dX0_init_39 : decode cX0_init 39 = .ok (.invokespecial 24, 3) := by decide +kernel
theorem dX0_init_42 : decode cX0_init 42 = .ok (.astore_n 1, 1) := by decide +kernel
theorem dX0_init_43 : decode cX0_init 43 = .ok (.iinc 2 (-1), 3) := by decide +kernel
theorem dX0_init_46 : decode cX0_init 46 = .ok (.goto (-18), 3) := by decide +kernel
theorem dX0_init_49 : decode cX0_init 49 = .ok (.aload_n 0, 1) := by decide +kernel
theorem dX0_init_50 : decode cX0_init 50 = .ok (.new 22, 3) := by decide +kernel
theorem dX0_init_53 : decode cX0_init 53 = .ok (.dup, 1) := by decide +kernel
theorem dX0_init_54 : decode cX0_init 54 = .ok (.iconst 1, 1) := by decide +kernel
theorem dX0_init_55 : decode cX0_init 55 = .ok (.aload_n 1, 1) := by decide +kernel
theorem dX0_init_56 : decode cX0_init 56 = .ok (.invokespecial 24, 3) := by decide +kernel
theorem dX0_init_59 : decode cX0_init 59 = .ok (.putfield 27, 3) := by decide +kernel
theorem dX0_init_62 : decode cX0_init 62 = .ok (.return_, 1) := by decide +kernel
theorem dX0_insertFault_0 : decode cX0_insertFault 0 = .ok (.iload_n 1, 1) := by decide +kernel
theorem dX0_insertFault_1 : decode cX0_insertFault 1 = .ok (.iconst 0, 1) := by decide +kernel
theorem dX0_insertFault_2 : decode cX0_insertFault 2 = .ok (.bipush 99, 2) := by decide +kernel
theorem dX0_insertFault_4 : decode cX0_insertFault 4 = .ok (.invokestatic 31, 3) := by decide +kernel
theorem dX0_insertFault_7 : decode cX0_insertFault 7 = .ok (.ifCond .eq 25, 3) := by decide +kernel
theorem dX0_insertFault_10 : decode cX0_insertFault 10 = .ok (.iload_n 2, 1) := by decide +kernel
theorem dX0_insertFault_11 : decode cX0_insertFault 11 = .ok (.invokestatic 35, 3) := by decide +kernel
theorem dX0_insertFault_14 : decode cX0_insertFault 14 = .ok (.ifCond .eq 18, 3) := by decide +kernel
theorem dX0_insertFault_17 : decode cX0_insertFault 17 = .ok (.iload_n 3, 1) := by decide +kernel
theorem dX0_insertFault_18 : decode cX0_insertFault 18 = .ok (.invokestatic 35, 3) := by decide +kernel
theorem dX0_insertFault_21 : decode cX0_insertFault 21 = .ok (.ifCond .eq 11, 3) := by decide +kernel
theorem dX0_insertFault_24 : decode cX0_insertFault 24 = .ok (.iload 4, 2) := by decide +kernel
theorem dX0_insertFault_26 : decode cX0_insertFault 26 = .ok (.invokestatic 35, 3) := by decide +kernel
theorem dX0_insertFault_29 : decode cX0_insertFault 29 = .ok (.ifCond .ne 7, 3) := by decide +kernel
theorem dX0_insertFault_32 : decode cX0_insertFault 32 = .ok (.sipush (-1002), 3) := by decide +kernel
theorem dX0_insertFault_35 : decode cX0_insertFault 35 = .ok (.ireturn, 1) := by decide +kernel
theorem dX0_insertFault_36 : decode cX0_insertFault 36 = .ok (.aload_n 0, 1) := by decide +kernel
theorem dX0_insertFault_37 : decode cX0_insertFault 37 = .ok (.getfield 12, 3) := by decide +kernel
theorem dX0_insertFault_40 : decode cX0_insertFault 40 = .ok (.getfield 39, 3) := by decide +kernel
theorem dX0_insertFault_43 : decode cX0_insertFault 43 = .ok (.iload_n 1, 1) := by decide +kernel
theorem dX0_insertFault_44 : decode cX0_insertFault 44 = .ok (.invokevirtual 43, 3) := by decide +kernel
theorem dX0_insertFault_47 : decode cX0_insertFault 47 = .ok (.ifnull 7, 3) := by decide +kernel
theorem dX0_insertFault_50 : decode cX0_insertFault 50 = .ok (.sipush (-1004), 3) := by decide +kernel
theorem dX0_insertFault_53 : decode cX0_insertFault 53 = .ok (.ireturn, 1) := by decide +kernel
theorem dX0_insertFault_54 : decode cX0_insertFault 54 = .ok (.aload_n 0, 1) := by decide +kernel
theorem dX0_insertFault_55 : decode cX0_insertFault 55 = .ok (.getfield 12, 3) := by decide +kernel
theorem dX0_insertFault_58 : decode cX0_insertFault 58 = .ok (.getfield 39, 3) := by decide +kernel
theorem dX0_insertFault_61 : decode cX0_insertFault 61 = .ok (.invokevirtual 49, 3) := by decide +kernel
theorem dX0_insertFault_64 : decode cX0_insertFault 64 = .ok (.ifCond .eq 9, 3) := by decide +kernel
theorem dX0_insertFault_67 : decode cX0_insertFault 67 = .ok (.sipush (-1003), 3) := by decide +kernel
theorem dX0_insertFault_70 : decode cX0_insertFault 70 = .ok (.goto 4, 3) := by decide +kernel
theorem dX0_insertFault_73 : decode cX0_insertFault 73 = .ok (.iconst 0, 1) := by decide +kernel
theorem dX0_insertFault_74 : decode cX0_insertFault 74 = .ok (.ireturn, 1) := by decide +kernel
theorem dX0_updateFault_0 : decode cX0_updateFault 0 = .ok (.aload_n 0, 1) := by decide +kernel
theorem dX0_updateFault_1 : decode cX0_updateFault 1 = .ok (.getfield 12, 3) := by decide +kernel
theorem dX0_updateFault_4 : decode cX0_updateFault 4 = .ok (.getfield 39, 3) := by decide +kernel
theorem dX0_updateFault_7 : decode cX0_updateFault 7 = .ok (.iload_n 1, 1) := by decide +kernel
theorem dX0_updateFault_8 : decode cX0_updateFault 8 = .ok (.invokevirtual 43, 3) := by decide +kernel
theorem dX0_updateFault_11 : decode cX0_updateFault 11 = .ok (.astore 4, 2) := by decide +kernel
theorem dX0_updateFault_13 : decode cX0_updateFault 13 = .ok (.aload 4, 2) := by decide +kernel
theorem dX0_updateFault_15 : decode cX0_updateFault 15 = .ok (.ifnonnull 7, 3) := by decide +kernel
theorem dX0_updateFault_18 : decode cX0_updateFault 18 = .ok (.sipush (-1001), 3) := by decide +kernel
theorem dX0_updateFault_21 : decode cX0_updateFault 21 = .ok (.ireturn, 1) := by decide +kernel
theorem dX0_updateFault_22 : decode cX0_updateFault 22 = .ok (.iload_n 2, 1) := by decide +kernel
theorem dX0_updateFault_23 : decode cX0_updateFault 23 = .ok (.iconst 0, 1) := by decide +kernel
theorem dX0_updateFault_24 : decode cX0_updateFault 24 = .ok (.iconst 2, 1) := by decide +kernel
theorem dX0_updateFault_25 : decode cX0_updateFault 25 = .ok (.invokestatic 31, 3) := by decide +kernel
theorem dX0_updateFault_28 : decode cX0_updateFault 28 = .ok (.ifCond .eq 10, 3) := by decide +kernel
theorem dX0_updateFault_31 : decode cX0_updateFault 31 = .ok (.iload_n 3, 1) := by decide +kernel
theorem dX0_updateFault_32 : decode cX0_updateFault 32 = .ok (.invokestatic 35, 3) := by decide +kernel
theorem dX0_updateFault_35 : decode cX0_updateFault 35 = .ok (.ifCond .ne 7, 3) := by decide +kernel
theorem dX0_updateFault_38 : decode cX0_updateFault 38 = .ok (.sipush (-1002), 3) := by decide +kernel
theorem dX0_updateFault_41 : decode cX0_updateFault 41 = .ok (.ireturn, 1) := by decide +kernel
theorem dX0_updateFault_42 : decode cX0_updateFault 42 = .ok (.aload 4, 2) := by decide +kernel
theorem dX0_updateFault_44 : decode cX0_updateFault 44 = .ok (.iload_n 2, 1) := by decide +kernel
theorem dX0_updateFault_45 : decode cX0_updateFault 45 = .ok (.invokevirtual 53, 3) := by decide +kernel
theorem dX0_updateFault_48 : decode cX0_updateFault 48 = .ok (.iload_n 3, 1) := by decide +kernel
theorem dX0_updateFault_49 : decode cX0_updateFault 49 = .ok (.if_icmp .ne 9, 3) := by decide +kernel
theorem dX0_updateFault_52 : decode cX0_updateFault 52 = .ok (.sipush (-1006), 3) := by decide +kernel
theorem dX0_updateFault_55 : decode cX0_updateFault 55 = .ok (.goto 4, 3) := by decide +kernel
theorem dX0_updateFault_58 : decode cX0_updateFault 58 = .ok (.iconst 0, 1) := by decide +kernel
theorem dX0_updateFault_59 : decode cX0_updateFault 59 = .ok (.ireturn, 1) := by decide +kernel
theorem dX0_deleteFault_0 : decode cX0_deleteFault 0 = .ok (.aload_n 0, 1) := by decide +kernel
theorem dX0_deleteFault_1 : decode cX0_deleteFault 1 = .ok (.getfield 12, 3) := by decide +kernel
theorem dX0_deleteFault_4 : decode cX0_deleteFault 4 = .ok (.getfield 39, 3) := by decide +kernel
theorem dX0_deleteFault_7 : decode cX0_deleteFault 7 = .ok (.iload_n 1, 1) := by decide +kernel
theorem dX0_deleteFault_8 : decode cX0_deleteFault 8 = .ok (.invokevirtual 43, 3) := by decide +kernel
theorem dX0_deleteFault_11 : decode cX0_deleteFault 11 = .ok (.ifnonnull 9, 3) := by decide +kernel
theorem dX0_deleteFault_14 : decode cX0_deleteFault 14 = .ok (.sipush (-1001), 3) := by decide +kernel
theorem dX0_deleteFault_17 : decode cX0_deleteFault 17 = .ok (.goto 4, 3) := by decide +kernel
theorem dX0_deleteFault_20 : decode cX0_deleteFault 20 = .ok (.iconst 0, 1) := by decide +kernel
theorem dX0_deleteFault_21 : decode cX0_deleteFault 21 = .ok (.ireturn, 1) := by decide +kernel
theorem dX0_runInsert_0 : decode cX0_runInsert 0 = .ok (.aload_n 0, 1) := by decide +kernel
theorem dX0_runInsert_1 : decode cX0_runInsert 1 = .ok (.iload_n 1, 1) := by decide +kernel
theorem dX0_runInsert_2 : decode cX0_runInsert 2 = .ok (.iload_n 2, 1) := by decide +kernel
theorem dX0_runInsert_3 : decode cX0_runInsert 3 = .ok (.iload_n 3, 1) := by decide +kernel
theorem dX0_runInsert_4 : decode cX0_runInsert 4 = .ok (.iload 4, 2) := by decide +kernel
theorem dX0_runInsert_6 : decode cX0_runInsert 6 = .ok (.invokevirtual 59, 3) := by decide +kernel
theorem dX0_runInsert_9 : decode cX0_runInsert 9 = .ok (.istore 5, 2) := by decide +kernel
theorem dX0_runInsert_11 : decode cX0_runInsert 11 = .ok (.iload 5, 2) := by decide +kernel
theorem dX0_runInsert_13 : decode cX0_runInsert 13 = .ok (.ifCond .eq 6, 3) := by decide +kernel
theorem dX0_runInsert_16 : decode cX0_runInsert 16 = .ok (.iload 5, 2) := by decide +kernel
theorem dX0_runInsert_18 : decode cX0_runInsert 18 = .ok (.ireturn, 1) := by decide +kernel
theorem dX0_runInsert_19 : decode cX0_runInsert 19 = .ok (.aload_n 0, 1) := by decide +kernel
theorem dX0_runInsert_20 : decode cX0_runInsert 20 = .ok (.getfield 27, 3) := by decide +kernel
theorem dX0_runInsert_23 : decode cX0_runInsert 23 = .ok (.getfield 63, 3) := by decide +kernel
theorem dX0_runInsert_26 : decode cX0_runInsert 26 = .ok (.iload_n 1, 1) := by decide +kernel
theorem dX0_runInsert_27 : decode cX0_runInsert 27 = .ok (.iload_n 2, 1) := by decide +kernel
theorem dX0_runInsert_28 : decode cX0_runInsert 28 = .ok (.iload_n 3, 1) := by decide +kernel
theorem dX0_runInsert_29 : decode cX0_runInsert 29 = .ok (.iload 4, 2) := by decide +kernel
theorem dX0_runInsert_31 : decode cX0_runInsert 31 = .ok (.invokevirtual 67, 3) := by decide +kernel
theorem dX0_runInsert_34 : decode cX0_runInsert 34 = .ok (.aload_n 0, 1) := by decide +kernel
theorem dX0_runInsert_35 : decode cX0_runInsert 35 = .ok (.iconst 0, 1) := by decide +kernel
theorem dX0_runInsert_36 : decode cX0_runInsert 36 = .ok (.invokevirtual 71, 3) := by decide +kernel
theorem dX0_runInsert_39 : decode cX0_runInsert 39 = .ok (.ireturn, 1) := by decide +kernel
theorem dX0_runUpdate_0 : decode cX0_runUpdate 0 = .ok (.aload_n 0, 1) := by decide +kernel
theorem dX0_runUpdate_1 : decode cX0_runUpdate 1 = .ok (.iload_n 1, 1) := by decide +kernel
theorem dX0_runUpdate_2 : decode cX0_runUpdate 2 = .ok (.iload_n 2, 1) := by decide +kernel
theorem dX0_runUpdate_3 : decode cX0_runUpdate 3 = .ok (.iload_n 3, 1) := by decide +kernel
theorem dX0_runUpdate_4 : decode cX0_runUpdate 4 = .ok (.invokevirtual 74, 3) := by decide +kernel
theorem dX0_runUpdate_7 : decode cX0_runUpdate 7 = .ok (.istore 4, 2) := by decide +kernel
theorem dX0_runUpdate_9 : decode cX0_runUpdate 9 = .ok (.iload 4, 2) := by decide +kernel
theorem dX0_runUpdate_11 : decode cX0_runUpdate 11 = .ok (.ifCond .eq 6, 3) := by decide +kernel
theorem dX0_runUpdate_14 : decode cX0_runUpdate 14 = .ok (.iload 4, 2) := by decide +kernel
theorem dX0_runUpdate_16 : decode cX0_runUpdate 16 = .ok (.ireturn, 1) := by decide +kernel
theorem dX0_runUpdate_17 : decode cX0_runUpdate 17 = .ok (.aload_n 0, 1) := by decide +kernel
theorem dX0_runUpdate_18 : decode cX0_runUpdate 18 = .ok (.aload_n 0, 1) := by decide +kernel
theorem dX0_runUpdate_19 : decode cX0_runUpdate 19 = .ok (.getfield 27, 3) := by decide +kernel
theorem dX0_runUpdate_22 : decode cX0_runUpdate 22 = .ok (.getfield 63, 3) := by decide +kernel
theorem dX0_runUpdate_25 : decode cX0_runUpdate 25 = .ok (.iload_n 1, 1) := by decide +kernel
theorem dX0_runUpdate_26 : decode cX0_runUpdate 26 = .ok (.iload_n 2, 1) := by decide +kernel
theorem dX0_runUpdate_27 : decode cX0_runUpdate 27 = .ok (.iload_n 3, 1) := by decide +kernel
theorem dX0_runUpdate_28 : decode cX0_runUpdate 28 = .ok (.invokevirtual 78, 3) := by decide +kernel
theorem dX0_runUpdate_31 : decode cX0_runUpdate 31 = .ok (.pop, 1) := by decide +kernel
theorem dX0_runUpdate_32 : decode cX0_runUpdate 32 = .ok (.aload_n 0, 1) := by decide +kernel
theorem dX0_runUpdate_33 : decode cX0_runUpdate 33 = .ok (.iconst 1, 1) := by decide +kernel
theorem dX0_runUpdate_34 : decode cX0_runUpdate 34 = .ok (.invokevirtual 71, 3) := by decide +kernel
theorem dX0_runUpdate_37 : decode cX0_runUpdate 37 = .ok (.ireturn, 1) := by decide +kernel
theorem dX0_runDelete_0 : decode cX0_runDelete 0 = .ok (.aload_n 0, 1) := by decide +kernel
theorem dX0_runDelete_1 : decode cX0_runDelete 1 = .ok (.iload_n 1, 1) := by decide +kernel
theorem dX0_runDelete_2 : decode cX0_runDelete 2 = .ok (.invokevirtual 82, 3) := by decide +kernel
theorem dX0_runDelete_5 : decode cX0_runDelete 5 = .ok (.istore_n 2, 1) := by decide +kernel
theorem dX0_runDelete_6 : decode cX0_runDelete 6 = .ok (.iload_n 2, 1) := by decide +kernel
theorem dX0_runDelete_7 : decode cX0_runDelete 7 = .ok (.ifCond .eq 5, 3) := by decide +kernel
theorem dX0_runDelete_10 : decode cX0_runDelete 10 = .ok (.iload_n 2, 1) := by decide +kernel
theorem dX0_runDelete_11 : decode cX0_runDelete 11 = .ok (.ireturn, 1) := by decide +kernel
theorem dX0_runDelete_12 : decode cX0_runDelete 12 = .ok (.aload_n 0, 1) := by decide +kernel
theorem dX0_runDelete_13 : decode cX0_runDelete 13 = .ok (.aload_n 0, 1) := by decide +kernel
theorem dX0_runDelete_14 : decode cX0_runDelete 14 = .ok (.getfield 27, 3) := by decide +kernel
theorem dX0_runDelete_17 : decode cX0_runDelete 17 = .ok (.getfield 63, 3) := by decide +kernel
theorem dX0_runDelete_20 : decode cX0_runDelete 20 = .ok (.iload_n 1, 1) := by decide +kernel
theorem dX0_runDelete_21 : decode cX0_runDelete 21 = .ok (.invokevirtual 85, 3) := by decide +kernel
theorem dX0_runDelete_24 : decode cX0_runDelete 24 = .ok (.pop, 1) := by decide +kernel
theorem dX0_runDelete_25 : decode cX0_runDelete 25 = .ok (.aload_n 0, 1) := by decide +kernel
theorem dX0_runDelete_26 : decode cX0_runDelete 26 = .ok (.iconst 2, 1) := by decide +kernel
theorem dX0_runDelete_27 : decode cX0_runDelete 27 = .ok (.invokevirtual 71, 3) := by decide +kernel
theorem dX0_runDelete_30 : decode cX0_runDelete 30 = .ok (.ireturn, 1) := by decide +kernel
theorem dX0_run_0 : decode cX0_run 0 = .ok (.aload_n 0, 1) := by decide +kernel
theorem dX0_run_1 : decode cX0_run 1 = .ok (.invokevirtual 89, 3) := by decide +kernel
theorem dX0_run_4 : decode cX0_run 4 = .ok (.aload_n 0, 1) := by decide +kernel
theorem dX0_run_5 : decode cX0_run 5 = .ok (.iload_n 1, 1) := by decide +kernel
theorem dX0_run_6 : decode cX0_run 6 = .ok (.aload_n 0, 1) := by decide +kernel
theorem dX0_run_7 : decode cX0_run 7 = .ok (.getfield 27, 3) := by decide +kernel
theorem dX0_run_10 : decode cX0_run 10 = .ok (.sipush (-1006), 3) := by decide +kernel
theorem dX0_run_13 : decode cX0_run 13 = .ok (.invokevirtual 92, 3) := by decide +kernel
theorem dX0_run_16 : decode cX0_run 16 = .ok (.aload_n 0, 1) := by decide +kernel
theorem dX0_run_17 : decode cX0_run 17 = .ok (.getfield 96, 3) := by decide +kernel
theorem dX0_run_20 : decode cX0_run 20 = .ok (.ifCond .eq 7, 3) := by decide +kernel
theorem dX0_run_23 : decode cX0_run 23 = .ok (.sipush (-1005), 3) := by decide +kernel
theorem dX0_run_26 : decode cX0_run 26 = .ok (.ireturn, 1) := by decide +kernel
theorem dX0_run_27 : decode cX0_run 27 = .ok (.aload_n 0, 1) := by decide +kernel
theorem dX0_run_28 : decode cX0_run 28 = .ok (.getfield 12, 3) := by decide +kernel
theorem dX0_run_31 : decode cX0_run 31 = .ok (.dup, 1) := by decide +kernel
theorem dX0_run_32 : decode cX0_run 32 = .ok (.getfield 100, 3) := by decide +kernel
theorem dX0_run_35 : decode cX0_run 35 = .ok (.iconst 1, 1) := by decide +kernel
theorem dX0_run_36 : decode cX0_run 36 = .ok (.iadd, 1) := by decide +kernel
theorem dX0_run_37 : decode cX0_run 37 = .ok (.putfield 100, 3) := by decide +kernel
theorem dX0_run_40 : decode cX0_run 40 = .ok (.aload_n 0, 1) := by decide +kernel
theorem dX0_run_41 : decode cX0_run 41 = .ok (.getfield 12, 3) := by decide +kernel
theorem dX0_run_44 : decode cX0_run 44 = .ok (.dup, 1) := by decide +kernel
theorem dX0_run_45 : decode cX0_run 45 = .ok (.getfield 103, 3) := by decide +kernel
theorem dX0_run_48 : decode cX0_run 48 = .ok (.aload_n 0, 1) := by decide +kernel
theorem dX0_run_49 : decode cX0_run 49 = .ok (.getfield 106, 3) := by decide +kernel
theorem dX0_run_52 : decode cX0_run 52 = .ok (.iadd, 1) := by decide +kernel
theorem dX0_run_53 : decode cX0_run 53 = .ok (.putfield 103, 3) := by decide +kernel
theorem dX0_run_56 : decode cX0_run 56 = .ok (.aload_n 0, 1) := by decide +kernel
theorem dX0_run_57 : decode cX0_run 57 = .ok (.getfield 12, 3) := by decide +kernel
theorem dX0_run_60 : decode cX0_run 60 = .ok (.dup, 1) := by decide +kernel
theorem dX0_run_61 : decode cX0_run 61 = .ok (.getfield 107, 3) := by decide +kernel
theorem dX0_run_64 : decode cX0_run 64 = .ok (.aload_n 0, 1) := by decide +kernel
theorem dX0_run_65 : decode cX0_run 65 = .ok (.getfield 110, 3) := by decide +kernel
theorem dX0_run_68 : decode cX0_run 68 = .ok (.iadd, 1) := by decide +kernel
theorem dX0_run_69 : decode cX0_run 69 = .ok (.putfield 107, 3) := by decide +kernel
theorem dX0_run_72 : decode cX0_run 72 = .ok (.aload_n 0, 1) := by decide +kernel
theorem dX0_run_73 : decode cX0_run 73 = .ok (.getfield 12, 3) := by decide +kernel
theorem dX0_run_76 : decode cX0_run 76 = .ok (.aload_n 0, 1) := by decide +kernel
theorem dX0_run_77 : decode cX0_run 77 = .ok (.getfield 12, 3) := by decide +kernel
theorem dX0_run_80 : decode cX0_run 80 = .ok (.getfield 111, 3) := by decide +kernel
theorem dX0_run_83 : decode cX0_run 83 = .ok (.aload_n 0, 1) := by decide +kernel
theorem dX0_run_84 : decode cX0_run 84 = .ok (.getfield 114, 3) := by decide +kernel
theorem dX0_run_87 : decode cX0_run 87 = .ok (.invokestatic 115, 3) := by decide +kernel
theorem dX0_run_90 : decode cX0_run 90 = .ok (.putfield 111, 3) := by decide +kernel
theorem dX0_run_93 : decode cX0_run 93 = .ok (.aload_n 0, 1) := by decide +kernel
theorem dX0_run_94 : decode cX0_run 94 = .ok (.getfield 106, 3) := by decide +kernel
theorem dX0_run_97 : decode cX0_run 97 = .ok (.ireturn, 1) := by decide +kernel
theorem dX0_report_0 : decode cX0_report 0 = .ok (.iload_n 1, 1) := by decide +kernel
theorem dX0_report_1 : decode cX0_report 1 = .ok (.tableswitch 51 0 3 #[31, 36, 41, 46], 31) := by decide +kernel
theorem dX0_report_32 : decode cX0_report 32 = .ok (.aload_n 0, 1) := by decide +kernel
theorem dX0_report_33 : decode cX0_report 33 = .ok (.getfield 96, 3) := by decide +kernel
theorem dX0_report_36 : decode cX0_report 36 = .ok (.ireturn, 1) := by decide +kernel
theorem dX0_report_37 : decode cX0_report 37 = .ok (.aload_n 0, 1) := by decide +kernel
theorem dX0_report_38 : decode cX0_report 38 = .ok (.getfield 121, 3) := by decide +kernel
theorem dX0_report_41 : decode cX0_report 41 = .ok (.ireturn, 1) := by decide +kernel
theorem dX0_report_42 : decode cX0_report 42 = .ok (.aload_n 0, 1) := by decide +kernel
theorem dX0_report_43 : decode cX0_report 43 = .ok (.getfield 106, 3) := by decide +kernel
theorem dX0_report_46 : decode cX0_report 46 = .ok (.ireturn, 1) := by decide +kernel
theorem dX0_report_47 : decode cX0_report 47 = .ok (.aload_n 0, 1) := by decide +kernel
theorem dX0_report_48 : decode cX0_report 48 = .ok (.getfield 110, 3) := by decide +kernel
theorem dX0_report_51 : decode cX0_report 51 = .ok (.ireturn, 1) := by decide +kernel
theorem dX0_report_52 : decode cX0_report 52 = .ok (.aload_n 0, 1) := by decide +kernel
theorem dX0_report_53 : decode cX0_report 53 = .ok (.getfield 114, 3) := by decide +kernel
theorem dX0_report_56 : decode cX0_report 56 = .ok (.ireturn, 1) := by decide +kernel
theorem dX0_begin_0 : decode cX0_begin 0 = .ok (.aload_n 0, 1) := by decide +kernel
theorem dX0_begin_1 : decode cX0_begin 1 = .ok (.getfield 12, 3) := by decide +kernel
theorem dX0_begin_4 : decode cX0_begin 4 = .ok (.getfield 124, 3) := by decide +kernel
theorem dX0_begin_7 : decode cX0_begin 7 = .ok (.iconst 0, 1) := by decide +kernel
theorem dX0_begin_8 : decode cX0_begin 8 = .ok (.putfield 128, 3) := by decide +kernel
theorem dX0_begin_11 : decode cX0_begin 11 = .ok (.aload_n 0, 1) := by decide +kernel
theorem dX0_begin_12 : decode cX0_begin 12 = .ok (.iconst 0, 1) := by decide +kernel
theorem dX0_begin_13 : decode cX0_begin 13 = .ok (.putfield 106, 3) := by decide +kernel
theorem dX0_begin_16 : decode cX0_begin 16 = .ok (.aload_n 0, 1) := by decide +kernel
theorem dX0_begin_17 : decode cX0_begin 17 = .ok (.iconst 0, 1) := by decide +kernel
theorem dX0_begin_18 : decode cX0_begin 18 = .ok (.putfield 110, 3) := by decide +kernel
theorem dX0_begin_21 : decode cX0_begin 21 = .ok (.aload_n 0, 1) := by decide +kernel
theorem dX0_begin_22 : decode cX0_begin 22 = .ok (.iconst 0, 1) := by decide +kernel
theorem dX0_begin_23 : decode cX0_begin 23 = .ok (.putfield 114, 3) := by decide +kernel
theorem dX0_begin_26 : decode cX0_begin 26 = .ok (.aload_n 0, 1) := by decide +kernel
theorem dX0_begin_27 : decode cX0_begin 27 = .ok (.iconst 0, 1) := by decide +kernel
theorem dX0_begin_28 : decode cX0_begin 28 = .ok (.putfield 96, 3) := by decide +kernel
theorem dX0_begin_31 : decode cX0_begin 31 = .ok (.aload_n 0, 1) := by decide +kernel
theorem dX0_begin_32 : decode cX0_begin 32 = .ok (.sipush (-1006), 3) := by decide +kernel
theorem dX0_begin_35 : decode cX0_begin 35 = .ok (.putfield 121, 3) := by decide +kernel
theorem dX0_begin_38 : decode cX0_begin 38 = .ok (.return_, 1) := by decide +kernel
theorem dX0_canTake_0 : decode cX0_canTake 0 = .ok (.iload_n 1, 1) := by decide +kernel
theorem dX0_canTake_1 : decode cX0_canTake 1 = .ok (.iconst 0, 1) := by decide +kernel
theorem dX0_canTake_2 : decode cX0_canTake 2 = .ok (.bipush 99, 2) := by decide +kernel
theorem dX0_canTake_4 : decode cX0_canTake 4 = .ok (.invokestatic 31, 3) := by decide +kernel
theorem dX0_canTake_7 : decode cX0_canTake 7 = .ok (.ifCond .eq 34, 3) := by decide +kernel
theorem dX0_canTake_10 : decode cX0_canTake 10 = .ok (.aload_n 0, 1) := by decide +kernel
theorem dX0_canTake_11 : decode cX0_canTake 11 = .ok (.getfield 12, 3) := by decide +kernel
theorem dX0_canTake_14 : decode cX0_canTake 14 = .ok (.getfield 39, 3) := by decide +kernel
theorem dX0_canTake_17 : decode cX0_canTake 17 = .ok (.iload_n 1, 1) := by decide +kernel
theorem dX0_canTake_18 : decode cX0_canTake 18 = .ok (.invokevirtual 43, 3) := by decide +kernel
theorem dX0_canTake_21 : decode cX0_canTake 21 = .ok (.ifnonnull 20, 3) := by decide +kernel
theorem dX0_canTake_24 : decode cX0_canTake 24 = .ok (.aload_n 0, 1) := by decide +kernel
theorem dX0_canTake_25 : decode cX0_canTake 25 = .ok (.getfield 12, 3) := by decide +kernel
theorem dX0_canTake_28 : decode cX0_canTake 28 = .ok (.getfield 39, 3) := by decide +kernel
theorem dX0_canTake_31 : decode cX0_canTake 31 = .ok (.invokevirtual 49, 3) := by decide +kernel
theorem dX0_canTake_34 : decode cX0_canTake 34 = .ok (.ifCond .ne 7, 3) := by decide +kernel
theorem dX0_canTake_37 : decode cX0_canTake 37 = .ok (.iconst 1, 1) := by decide +kernel
theorem dX0_canTake_38 : decode cX0_canTake 38 = .ok (.goto 4, 3) := by decide +kernel
theorem dX0_canTake_41 : decode cX0_canTake 41 = .ok (.iconst 0, 1) := by decide +kernel
theorem dX0_canTake_42 : decode cX0_canTake 42 = .ok (.ireturn, 1) := by decide +kernel
theorem dX0_prepareUpdate_0 : decode cX0_prepareUpdate 0 = .ok (.aload_n 0, 1) := by decide +kernel
theorem dX0_prepareUpdate_1 : decode cX0_prepareUpdate 1 = .ok (.getfield 12, 3) := by decide +kernel
theorem dX0_prepareUpdate_4 : decode cX0_prepareUpdate 4 = .ok (.getfield 39, 3) := by decide +kernel
theorem dX0_prepareUpdate_7 : decode cX0_prepareUpdate 7 = .ok (.iload_n 2, 1) := by decide +kernel
theorem dX0_prepareUpdate_8 : decode cX0_prepareUpdate 8 = .ok (.invokevirtual 43, 3) := by decide +kernel
theorem dX0_prepareUpdate_11 : decode cX0_prepareUpdate 11 = .ok (.astore 5, 2) := by decide +kernel
theorem dX0_prepareUpdate_13 : decode cX0_prepareUpdate 13 = .ok (.aload 5, 2) := by decide +kernel
theorem dX0_prepareUpdate_15 : decode cX0_prepareUpdate 15 = .ok (.ifnull 14, 3) := by decide +kernel
theorem dX0_prepareUpdate_18 : decode cX0_prepareUpdate 18 = .ok (.aload 5, 2) := by decide +kernel
theorem dX0_prepareUpdate_20 : decode cX0_prepareUpdate 20 = .ok (.iload_n 3, 1) := by decide +kernel
theorem dX0_prepareUpdate_21 : decode cX0_prepareUpdate 21 = .ok (.invokevirtual 53, 3) := by decide +kernel
theorem dX0_prepareUpdate_24 : decode cX0_prepareUpdate 24 = .ok (.iload 4, 2) := by decide +kernel
theorem dX0_prepareUpdate_26 : decode cX0_prepareUpdate 26 = .ok (.if_icmp .ne 5, 3) := by decide +kernel
theorem dX0_prepareUpdate_29 : decode cX0_prepareUpdate 29 = .ok (.iconst 0, 1) := by decide +kernel
theorem dX0_prepareUpdate_30 : decode cX0_prepareUpdate 30 = .ok (.ireturn, 1) := by decide +kernel
theorem dX0_prepareUpdate_31 : decode cX0_prepareUpdate 31 = .ok (.aload_n 1, 1) := by decide +kernel
theorem dX0_prepareUpdate_32 : decode cX0_prepareUpdate 32 = .ok (.aload 5, 2) := by decide +kernel
theorem dX0_prepareUpdate_34 : decode cX0_prepareUpdate 34 = .ok (.invokevirtual 133, 3) := by decide +kernel
theorem dX0_prepareUpdate_37 : decode cX0_prepareUpdate 37 = .ok (.aload_n 1, 1) := by decide +kernel
theorem dX0_prepareUpdate_38 : decode cX0_prepareUpdate 38 = .ok (.iload_n 3, 1) := by decide +kernel
theorem dX0_prepareUpdate_39 : decode cX0_prepareUpdate 39 = .ok (.iload 4, 2) := by decide +kernel
theorem dX0_prepareUpdate_41 : decode cX0_prepareUpdate 41 = .ok (.invokevirtual 137, 3) := by decide +kernel
theorem dX0_prepareUpdate_44 : decode cX0_prepareUpdate 44 = .ok (.iconst 1, 1) := by decide +kernel
theorem dX0_prepareUpdate_45 : decode cX0_prepareUpdate 45 = .ok (.ireturn, 1) := by decide +kernel
theorem dX0_prepareDelete_0 : decode cX0_prepareDelete 0 = .ok (.aload_n 0, 1) := by decide +kernel
theorem dX0_prepareDelete_1 : decode cX0_prepareDelete 1 = .ok (.getfield 12, 3) := by decide +kernel
theorem dX0_prepareDelete_4 : decode cX0_prepareDelete 4 = .ok (.getfield 39, 3) := by decide +kernel
theorem dX0_prepareDelete_7 : decode cX0_prepareDelete 7 = .ok (.iload_n 2, 1) := by decide +kernel
theorem dX0_prepareDelete_8 : decode cX0_prepareDelete 8 = .ok (.invokevirtual 43, 3) := by decide +kernel
theorem dX0_prepareDelete_11 : decode cX0_prepareDelete 11 = .ok (.astore_n 3, 1) := by decide +kernel
theorem dX0_prepareDelete_12 : decode cX0_prepareDelete 12 = .ok (.aload_n 3, 1) := by decide +kernel
theorem dX0_prepareDelete_13 : decode cX0_prepareDelete 13 = .ok (.ifnonnull 5, 3) := by decide +kernel
theorem dX0_prepareDelete_16 : decode cX0_prepareDelete 16 = .ok (.iconst 0, 1) := by decide +kernel
theorem dX0_prepareDelete_17 : decode cX0_prepareDelete 17 = .ok (.ireturn, 1) := by decide +kernel
theorem dX0_prepareDelete_18 : decode cX0_prepareDelete 18 = .ok (.aload_n 1, 1) := by decide +kernel
theorem dX0_prepareDelete_19 : decode cX0_prepareDelete 19 = .ok (.aload_n 3, 1) := by decide +kernel
theorem dX0_prepareDelete_20 : decode cX0_prepareDelete 20 = .ok (.invokevirtual 133, 3) := by decide +kernel
theorem dX0_prepareDelete_23 : decode cX0_prepareDelete 23 = .ok (.iconst 1, 1) := by decide +kernel
theorem dX0_prepareDelete_24 : decode cX0_prepareDelete 24 = .ok (.ireturn, 1) := by decide +kernel
theorem dX0_prepareCaused_0 : decode cX0_prepareCaused 0 = .ok (.aload_n 1, 1) := by decide +kernel
theorem dX0_prepareCaused_1 : decode cX0_prepareCaused 1 = .ok (.aload_n 2, 1) := by decide +kernel
theorem dX0_prepareCaused_2 : decode cX0_prepareCaused 2 = .ok (.invokevirtual 141, 3) := by decide +kernel
theorem dX0_prepareCaused_5 : decode cX0_prepareCaused 5 = .ok (.istore 4, 2) := by decide +kernel
theorem dX0_prepareCaused_7 : decode cX0_prepareCaused 7 = .ok (.aload_n 1, 1) := by decide +kernel
theorem dX0_prepareCaused_8 : decode cX0_prepareCaused 8 = .ok (.getfield 147, 3) := by decide +kernel
theorem dX0_prepareCaused_11 : decode cX0_prepareCaused 11 = .ok (.lookupswitch 74 #[(3, 25), (4, 43)], 25) := by decide +kernel
theorem dX0_prepareCaused_36 : decode cX0_prepareCaused 36 = .ok (.aload_n 3, 1) := by decide +kernel
theorem dX0_prepareCaused_37 : decode cX0_prepareCaused 37 = .ok (.aload_n 2, 1) := by decide +kernel
theorem dX0_prepareCaused_38 : decode cX0_prepareCaused 38 = .ok (.invokevirtual 133, 3) := by decide +kernel
theorem dX0_prepareCaused_41 : decode cX0_prepareCaused 41 = .ok (.aload_n 3, 1) := by decide +kernel
theorem dX0_prepareCaused_42 : decode cX0_prepareCaused 42 = .ok (.iload 4, 2) := by decide +kernel
theorem dX0_prepareCaused_44 : decode cX0_prepareCaused 44 = .ok (.putfield 150, 3) := by decide +kernel
theorem dX0_prepareCaused_47 : decode cX0_prepareCaused 47 = .ok (.aload_n 0, 1) := by decide +kernel
theorem dX0_prepareCaused_48 : decode cX0_prepareCaused 48 = .ok (.iload 4, 2) := by decide +kernel
theorem dX0_prepareCaused_50 : decode cX0_prepareCaused 50 = .ok (.invokevirtual 153, 3) := by decide +kernel
theorem dX0_prepareCaused_53 : decode cX0_prepareCaused 53 = .ok (.ireturn, 1) := by decide +kernel
theorem dX0_prepareCaused_54 : decode cX0_prepareCaused 54 = .ok (.aload_n 0, 1) := by decide +kernel
theorem dX0_prepareCaused_55 : decode cX0_prepareCaused 55 = .ok (.aload_n 3, 1) := by decide +kernel
theorem dX0_prepareCaused_56 : decode cX0_prepareCaused 56 = .ok (.aload_n 2, 1) := by decide +kernel
theorem dX0_prepareCaused_57 : decode cX0_prepareCaused 57 = .ok (.getfield 150, 3) := by decide +kernel
theorem dX0_prepareCaused_60 : decode cX0_prepareCaused 60 = .ok (.bipush 99, 2) := by decide +kernel
theorem dX0_prepareCaused_62 : decode cX0_prepareCaused 62 = .ok (.if_icmp .ne 7, 3) := by decide +kernel
theorem dX0_prepareCaused_65 : decode cX0_prepareCaused 65 = .ok (.iconst 0, 1) := by decide +kernel
theorem dX0_prepareCaused_66 : decode cX0_prepareCaused 66 = .ok (.goto 9, 3) := by decide +kernel
theorem dX0_prepareCaused_69 : decode cX0_prepareCaused 69 = .ok (.aload_n 2, 1) := by decide +kernel
theorem dX0_prepareCaused_70 : decode cX0_prepareCaused 70 = .ok (.getfield 150, 3) := by decide +kernel
theorem dX0_prepareCaused_73 : decode cX0_prepareCaused 73 = .ok (.iconst 1, 1) := by decide +kernel
theorem dX0_prepareCaused_74 : decode cX0_prepareCaused 74 = .ok (.iadd, 1) := by decide +kernel
theorem dX0_prepareCaused_75 : decode cX0_prepareCaused 75 = .ok (.aload_n 1, 1) := by decide +kernel
theorem dX0_prepareCaused_76 : decode cX0_prepareCaused 76 = .ok (.getfield 156, 3) := by decide +kernel
theorem dX0_prepareCaused_79 : decode cX0_prepareCaused 79 = .ok (.iload 4, 2) := by decide +kernel
theorem dX0_prepareCaused_81 : decode cX0_prepareCaused 81 = .ok (.invokevirtual 78, 3) := by decide +kernel
theorem dX0_prepareCaused_84 : decode cX0_prepareCaused 84 = .ok (.ireturn, 1) := by decide +kernel
theorem dX0_prepareCaused_85 : decode cX0_prepareCaused 85 = .ok (.aload_n 0, 1) := by decide +kernel
theorem dX0_prepareCaused_86 : decode cX0_prepareCaused 86 = .ok (.aload_n 3, 1) := by decide +kernel
theorem dX0_prepareCaused_87 : decode cX0_prepareCaused 87 = .ok (.iload 4, 2) := by decide +kernel
theorem dX0_prepareCaused_89 : decode cX0_prepareCaused 89 = .ok (.invokevirtual 85, 3) := by decide +kernel
theorem dX0_prepareCaused_92 : decode cX0_prepareCaused 92 = .ok (.ireturn, 1) := by decide +kernel
theorem dX0_operate_0 : decode cX0_operate 0 = .ok (.aload_n 0, 1) := by decide +kernel
theorem dX0_operate_1 : decode cX0_operate 1 = .ok (.getfield 106, 3) := by decide +kernel
theorem dX0_operate_4 : decode cX0_operate 4 = .ok (.bipush 100, 2) := by decide +kernel
theorem dX0_operate_6 : decode cX0_operate 6 = .ok (.if_icmp .lt 10, 3) := by decide +kernel
theorem dX0_operate_9 : decode cX0_operate 9 = .ok (.aload_n 0, 1) := by decide +kernel
theorem dX0_operate_10 : decode cX0_operate 10 = .ok (.iconst 3, 1) := by decide +kernel
theorem dX0_operate_11 : decode cX0_operate 11 = .ok (.iload_n 3, 1) := by decide +kernel
theorem dX0_operate_12 : decode cX0_operate 12 = .ok (.invokevirtual 159, 3) := by decide +kernel
theorem dX0_operate_15 : decode cX0_operate 15 = .ok (.return_, 1) := by decide +kernel
theorem dX0_operate_16 : decode cX0_operate 16 = .ok (.aload_n 0, 1) := by decide +kernel
theorem dX0_operate_17 : decode cX0_operate 17 = .ok (.dup, 1) := by decide +kernel
theorem dX0_operate_18 : decode cX0_operate 18 = .ok (.getfield 106, 3) := by decide +kernel
theorem dX0_operate_21 : decode cX0_operate 21 = .ok (.iconst 1, 1) := by decide +kernel
theorem dX0_operate_22 : decode cX0_operate 22 = .ok (.iadd, 1) := by decide +kernel
theorem dX0_operate_23 : decode cX0_operate 23 = .ok (.putfield 106, 3) := by decide +kernel
theorem dX0_operate_26 : decode cX0_operate 26 = .ok (.aload_n 0, 1) := by decide +kernel
theorem dX0_operate_27 : decode cX0_operate 27 = .ok (.aload_n 0, 1) := by decide +kernel
theorem dX0_operate_28 : decode cX0_operate 28 = .ok (.getfield 114, 3) := by decide +kernel
theorem dX0_operate_31 : decode cX0_operate 31 = .ok (.aload_n 2, 1) := by decide +kernel
theorem dX0_operate_32 : decode cX0_operate 32 = .ok (.getfield 162, 3) := by decide +kernel
theorem dX0_operate_35 : decode cX0_operate 35 = .ok (.invokestatic 115, 3) := by decide +kernel
theorem dX0_operate_38 : decode cX0_operate 38 = .ok (.putfield 114, 3) := by decide +kernel
theorem dX0_operate_41 : decode cX0_operate 41 = .ok (.aload_n 0, 1) := by decide +kernel
theorem dX0_operate_42 : decode cX0_operate 42 = .ok (.iload_n 1, 1) := by decide +kernel
theorem dX0_operate_43 : decode cX0_operate 43 = .ok (.iconst 0, 1) := by decide +kernel
theorem dX0_operate_44 : decode cX0_operate 44 = .ok (.aload_n 2, 1) := by decide +kernel
theorem dX0_operate_45 : decode cX0_operate 45 = .ok (.invokevirtual 165, 3) := by decide +kernel
theorem dX0_operate_48 : decode cX0_operate 48 = .ok (.ifCond .ne 4, 3) := by decide +kernel
theorem dX0_operate_51 : decode cX0_operate 51 = .ok (.return_, 1) := by decide +kernel
theorem dX0_operate_52 : decode cX0_operate 52 = .ok (.aload_n 0, 1) := by decide +kernel
theorem dX0_operate_53 : decode cX0_operate 53 = .ok (.iload_n 1, 1) := by decide +kernel
theorem dX0_operate_54 : decode cX0_operate 54 = .ok (.aload_n 2, 1) := by decide +kernel
theorem dX0_operate_55 : decode cX0_operate 55 = .ok (.getfield 63, 3) := by decide +kernel
theorem dX0_operate_58 : decode cX0_operate 58 = .ok (.invokevirtual 169, 3) := by decide +kernel
theorem dX0_operate_61 : decode cX0_operate 61 = .ok (.aload_n 0, 1) := by decide +kernel
theorem dX0_operate_62 : decode cX0_operate 62 = .ok (.iload_n 1, 1) := by decide +kernel
theorem dX0_operate_63 : decode cX0_operate 63 = .ok (.iconst 1, 1) := by decide +kernel
theorem dX0_operate_64 : decode cX0_operate 64 = .ok (.aload_n 2, 1) := by decide +kernel
theorem dX0_operate_65 : decode cX0_operate 65 = .ok (.invokevirtual 165, 3) := by decide +kernel
theorem dX0_operate_68 : decode cX0_operate 68 = .ok (.pop, 1) := by decide +kernel
theorem dX0_operate_69 : decode cX0_operate 69 = .ok (.return_, 1) := by decide +kernel
theorem dX0_carryOut_0 : decode cX0_carryOut 0 = .ok (.iload_n 1, 1) := by decide +kernel
theorem dX0_carryOut_1 : decode cX0_carryOut 1 = .ok (.lookupswitch 68 #[(0, 27), (1, 41)], 27) := by decide +kernel
theorem dX0_carryOut_28 : decode cX0_carryOut 28 = .ok (.aload_n 0, 1) := by decide +kernel
theorem dX0_carryOut_29 : decode cX0_carryOut 29 = .ok (.getfield 12, 3) := by decide +kernel
theorem dX0_carryOut_32 : decode cX0_carryOut 32 = .ok (.getfield 39, 3) := by decide +kernel
theorem dX0_carryOut_35 : decode cX0_carryOut 35 = .ok (.aload_n 2, 1) := by decide +kernel
theorem dX0_carryOut_36 : decode cX0_carryOut 36 = .ok (.invokevirtual 173, 3) := by decide +kernel
theorem dX0_carryOut_39 : decode cX0_carryOut 39 = .ok (.goto 44, 3) := by decide +kernel
theorem dX0_carryOut_42 : decode cX0_carryOut 42 = .ok (.aload_n 0, 1) := by decide +kernel
theorem dX0_carryOut_43 : decode cX0_carryOut 43 = .ok (.getfield 12, 3) := by decide +kernel
theorem dX0_carryOut_46 : decode cX0_carryOut 46 = .ok (.getfield 39, 3) := by decide +kernel
theorem dX0_carryOut_49 : decode cX0_carryOut 49 = .ok (.aload_n 2, 1) := by decide +kernel
theorem dX0_carryOut_50 : decode cX0_carryOut 50 = .ok (.getfield 150, 3) := by decide +kernel
theorem dX0_carryOut_53 : decode cX0_carryOut 53 = .ok (.invokevirtual 43, 3) := by decide +kernel
theorem dX0_carryOut_56 : decode cX0_carryOut 56 = .ok (.astore_n 3, 1) := by decide +kernel
theorem dX0_carryOut_57 : decode cX0_carryOut 57 = .ok (.aload_n 3, 1) := by decide +kernel
theorem dX0_carryOut_58 : decode cX0_carryOut 58 = .ok (.ifnull 25, 3) := by decide +kernel
theorem dX0_carryOut_61 : decode cX0_carryOut 61 = .ok (.aload_n 3, 1) := by decide +kernel
theorem dX0_carryOut_62 : decode cX0_carryOut 62 = .ok (.aload_n 2, 1) := by decide +kernel
theorem dX0_carryOut_63 : decode cX0_carryOut 63 = .ok (.invokevirtual 133, 3) := by decide +kernel
theorem dX0_carryOut_66 : decode cX0_carryOut 66 = .ok (.goto 17, 3) := by decide +kernel
theorem dX0_carryOut_69 : decode cX0_carryOut 69 = .ok (.aload_n 0, 1) := by decide +kernel
theorem dX0_carryOut_70 : decode cX0_carryOut 70 = .ok (.getfield 12, 3) := by decide +kernel
theorem dX0_carryOut_73 : decode cX0_carryOut 73 = .ok (.getfield 39, 3) := by decide +kernel
theorem dX0_carryOut_76 : decode cX0_carryOut 76 = .ok (.aload_n 2, 1) := by decide +kernel
theorem dX0_carryOut_77 : decode cX0_carryOut 77 = .ok (.getfield 150, 3) := by decide +kernel
theorem dX0_carryOut_80 : decode cX0_carryOut 80 = .ok (.invokevirtual 176, 3) := by decide +kernel
theorem dX0_carryOut_83 : decode cX0_carryOut 83 = .ok (.return_, 1) := by decide +kernel
theorem dX0_fireRules_0 : decode cX0_fireRules 0 = .ok (.aload_n 0, 1) := by decide +kernel
theorem dX0_fireRules_1 : decode cX0_fireRules 1 = .ok (.getfield 12, 3) := by decide +kernel
theorem dX0_fireRules_4 : decode cX0_fireRules 4 = .ok (.getfield 180, 3) := by decide +kernel
theorem dX0_fireRules_7 : decode cX0_fireRules 7 = .ok (.astore 4, 2) := by decide +kernel
theorem dX0_fireRules_9 : decode cX0_fireRules 9 = .ok (.iconst 0, 1) := by decide +kernel
theorem dX0_fireRules_10 : decode cX0_fireRules 10 = .ok (.istore 5, 2) := by decide +kernel
theorem dX0_fireRules_12 : decode cX0_fireRules 12 = .ok (.iload 5, 2) := by decide +kernel
theorem dX0_fireRules_14 : decode cX0_fireRules 14 = .ok (.aload 4, 2) := by decide +kernel
theorem dX0_fireRules_16 : decode cX0_fireRules 16 = .ok (.getfield 184, 3) := by decide +kernel
theorem dX0_fireRules_19 : decode cX0_fireRules 19 = .ok (.if_icmp .ge 92, 3) := by decide +kernel
theorem dX0_fireRules_22 : decode cX0_fireRules 22 = .ok (.iload 5, 2) := by decide +kernel
theorem dX0_fireRules_24 : decode cX0_fireRules 24 = .ok (.bipush 12, 2) := by decide +kernel
theorem dX0_fireRules_26 : decode cX0_fireRules 26 = .ok (.if_icmp .ge 85, 3) := by decide +kernel
theorem dX0_fireRules_29 : decode cX0_fireRules 29 = .ok (.aload 4, 2) := by decide +kernel
theorem dX0_fireRules_31 : decode cX0_fireRules 31 = .ok (.iload 5, 2) := by decide +kernel
theorem dX0_fireRules_33 : decode cX0_fireRules 33 = .ok (.invokevirtual 187, 3) := by decide +kernel
theorem dX0_fireRules_36 : decode cX0_fireRules 36 = .ok (.istore 6, 2) := by decide +kernel
theorem dX0_fireRules_38 : decode cX0_fireRules 38 = .ok (.aload 4, 2) := by decide +kernel
theorem dX0_fireRules_40 : decode cX0_fireRules 40 = .ok (.iload 6, 2) := by decide +kernel
theorem dX0_fireRules_42 : decode cX0_fireRules 42 = .ok (.invokevirtual 190, 3) := by decide +kernel
theorem dX0_fireRules_45 : decode cX0_fireRules 45 = .ok (.astore 7, 2) := by decide +kernel
theorem dX0_fireRules_47 : decode cX0_fireRules 47 = .ok (.aload 7, 2) := by decide +kernel
theorem dX0_fireRules_49 : decode cX0_fireRules 49 = .ok (.ifnull 56, 3) := by decide +kernel
theorem dX0_fireRules_52 : decode cX0_fireRules 52 = .ok (.aload 7, 2) := by decide +kernel
theorem dX0_fireRules_54 : decode cX0_fireRules 54 = .ok (.getfield 194, 3) := by decide +kernel
theorem dX0_fireRules_57 : decode cX0_fireRules 57 = .ok (.ifCond .eq 48, 3) := by decide +kernel
theorem dX0_fireRules_60 : decode cX0_fireRules 60 = .ok (.aload 7, 2) := by decide +kernel
theorem dX0_fireRules_62 : decode cX0_fireRules 62 = .ok (.iload_n 1, 1) := by decide +kernel
theorem dX0_fireRules_63 : decode cX0_fireRules 63 = .ok (.iload_n 2, 1) := by decide +kernel
theorem dX0_fireRules_64 : decode cX0_fireRules 64 = .ok (.invokevirtual 198, 3) := by decide +kernel
theorem dX0_fireRules_67 : decode cX0_fireRules 67 = .ok (.ifCond .eq 38, 3) := by decide +kernel
theorem dX0_fireRules_70 : decode cX0_fireRules 70 = .ok (.aload_n 0, 1) := by decide +kernel
theorem dX0_fireRules_71 : decode cX0_fireRules 71 = .ok (.iload 6, 2) := by decide +kernel
theorem dX0_fireRules_73 : decode cX0_fireRules 73 = .ok (.invokevirtual 202, 3) := by decide +kernel
theorem dX0_fireRules_76 : decode cX0_fireRules 76 = .ok (.ifCond .ne 29, 3) := by decide +kernel
theorem dX0_fireRules_79 : decode cX0_fireRules 79 = .ok (.aload 7, 2) := by decide +kernel
theorem dX0_fireRules_81 : decode cX0_fireRules 81 = .ok (.aload_n 3, 1) := by decide +kernel
theorem dX0_fireRules_82 : decode cX0_fireRules 82 = .ok (.getfield 63, 3) := by decide +kernel
theorem dX0_fireRules_85 : decode cX0_fireRules 85 = .ok (.invokevirtual 205, 3) := by decide +kernel
theorem dX0_fireRules_88 : decode cX0_fireRules 88 = .ok (.ifCond .eq 17, 3) := by decide +kernel
theorem dX0_fireRules_91 : decode cX0_fireRules 91 = .ok (.aload_n 0, 1) := by decide +kernel
theorem dX0_fireRules_92 : decode cX0_fireRules 92 = .ok (.iload 6, 2) := by decide +kernel
theorem dX0_fireRules_94 : decode cX0_fireRules 94 = .ok (.aload 7, 2) := by decide +kernel
theorem dX0_fireRules_96 : decode cX0_fireRules 96 = .ok (.aload_n 3, 1) := by decide +kernel
theorem dX0_fireRules_97 : decode cX0_fireRules 97 = .ok (.invokevirtual 209, 3) := by decide +kernel
theorem dX0_fireRules_100 : decode cX0_fireRules 100 = .ok (.ifCond .ne 5, 3) := by decide +kernel
theorem dX0_fireRules_103 : decode cX0_fireRules 103 = .ok (.iconst 0, 1) := by decide +kernel
theorem dX0_fireRules_104 : decode cX0_fireRules 104 = .ok (.ireturn, 1) := by decide +kernel
theorem dX0_fireRules_105 : decode cX0_fireRules 105 = .ok (.iinc 5 1, 3) := by decide +kernel
theorem dX0_fireRules_108 : decode cX0_fireRules 108 = .ok (.goto (-96), 3) := by decide +kernel
theorem dX0_fireRules_111 : decode cX0_fireRules 111 = .ok (.iconst 1, 1) := by decide +kernel
theorem dX0_fireRules_112 : decode cX0_fireRules 112 = .ok (.ireturn, 1) := by decide +kernel
theorem dX0_fire_0 : decode cX0_fire 0 = .ok (.aload_n 0, 1) := by decide +kernel
theorem dX0_fire_1 : decode cX0_fire 1 = .ok (.dup, 1) := by decide +kernel
theorem dX0_fire_2 : decode cX0_fire 2 = .ok (.getfield 110, 3) := by decide +kernel
theorem dX0_fire_5 : decode cX0_fire 5 = .ok (.iconst 1, 1) := by decide +kernel
theorem dX0_fire_6 : decode cX0_fire 6 = .ok (.iadd, 1) := by decide +kernel
theorem dX0_fire_7 : decode cX0_fire 7 = .ok (.putfield 110, 3) := by decide +kernel
theorem dX0_fire_10 : decode cX0_fire 10 = .ok (.aload_n 2, 1) := by decide +kernel
theorem dX0_fire_11 : decode cX0_fire 11 = .ok (.dup, 1) := by decide +kernel
theorem dX0_fire_12 : decode cX0_fire 12 = .ok (.getfield 213, 3) := by decide +kernel
theorem dX0_fire_15 : decode cX0_fire 15 = .ok (.iconst 1, 1) := by decide +kernel
theorem dX0_fire_16 : decode cX0_fire 16 = .ok (.iadd, 1) := by decide +kernel
theorem dX0_fire_17 : decode cX0_fire 17 = .ok (.putfield 213, 3) := by decide +kernel
theorem dX0_fire_20 : decode cX0_fire 20 = .ok (.aload_n 0, 1) := by decide +kernel
theorem dX0_fire_21 : decode cX0_fire 21 = .ok (.getfield 12, 3) := by decide +kernel
theorem dX0_fire_24 : decode cX0_fire 24 = .ok (.getfield 124, 3) := by decide +kernel
theorem dX0_fire_27 : decode cX0_fire 27 = .ok (.iload_n 1, 1) := by decide +kernel
theorem dX0_fire_28 : decode cX0_fire 28 = .ok (.aload_n 3, 1) := by decide +kernel
theorem dX0_fire_29 : decode cX0_fire 29 = .ok (.getfield 162, 3) := by decide +kernel
theorem dX0_fire_32 : decode cX0_fire 32 = .ok (.aload_n 3, 1) := by decide +kernel
theorem dX0_fire_33 : decode cX0_fire 33 = .ok (.getfield 63, 3) := by decide +kernel
theorem dX0_fire_36 : decode cX0_fire 36 = .ok (.getfield 150, 3) := by decide +kernel
theorem dX0_fire_39 : decode cX0_fire 39 = .ok (.invokevirtual 214, 3) := by decide +kernel
theorem dX0_fire_42 : decode cX0_fire 42 = .ok (.aload_n 2, 1) := by decide +kernel
theorem dX0_fire_43 : decode cX0_fire 43 = .ok (.getfield 147, 3) := by decide +kernel
theorem dX0_fire_46 : decode cX0_fire 46 = .ok (.tableswitch 57 0 2 #[26, 49, 47], 26) := by decide +kernel
theorem dX0_fire_72 : decode cX0_fire 72 = .ok (.aload_n 3, 1) := by decide +kernel
theorem dX0_fire_73 : decode cX0_fire 73 = .ok (.getfield 63, 3) := by decide +kernel
theorem dX0_fire_76 : decode cX0_fire 76 = .ok (.aload_n 2, 1) := by decide +kernel
theorem dX0_fire_77 : decode cX0_fire 77 = .ok (.getfield 156, 3) := by decide +kernel
theorem dX0_fire_80 : decode cX0_fire 80 = .ok (.aload_n 2, 1) := by decide +kernel
theorem dX0_fire_81 : decode cX0_fire 81 = .ok (.aload_n 3, 1) := by decide +kernel
theorem dX0_fire_82 : decode cX0_fire 82 = .ok (.getfield 63, 3) := by decide +kernel
theorem dX0_fire_85 : decode cX0_fire 85 = .ok (.invokevirtual 141, 3) := by decide +kernel
theorem dX0_fire_88 : decode cX0_fire 88 = .ok (.invokevirtual 137, 3) := by decide +kernel
theorem dX0_fire_91 : decode cX0_fire 91 = .ok (.iconst 1, 1) := by decide +kernel
theorem dX0_fire_92 : decode cX0_fire 92 = .ok (.ireturn, 1) := by decide +kernel
theorem dX0_fire_93 : decode cX0_fire 93 = .ok (.iconst 0, 1) := by decide +kernel
theorem dX0_fire_94 : decode cX0_fire 94 = .ok (.ireturn, 1) := by decide +kernel
theorem dX0_fire_95 : decode cX0_fire 95 = .ok (.aload_n 0, 1) := by decide +kernel
theorem dX0_fire_96 : decode cX0_fire 96 = .ok (.iconst 1, 1) := by decide +kernel
theorem dX0_fire_97 : decode cX0_fire 97 = .ok (.iload_n 1, 1) := by decide +kernel
theorem dX0_fire_98 : decode cX0_fire 98 = .ok (.invokevirtual 159, 3) := by decide +kernel
theorem dX0_fire_101 : decode cX0_fire 101 = .ok (.iconst 0, 1) := by decide +kernel
theorem dX0_fire_102 : decode cX0_fire 102 = .ok (.ireturn, 1) := by decide +kernel
theorem dX0_fire_103 : decode cX0_fire 103 = .ok (.aload_n 0, 1) := by decide +kernel
theorem dX0_fire_104 : decode cX0_fire 104 = .ok (.iload_n 1, 1) := by decide +kernel
theorem dX0_fire_105 : decode cX0_fire 105 = .ok (.aload_n 2, 1) := by decide +kernel
theorem dX0_fire_106 : decode cX0_fire 106 = .ok (.aload_n 3, 1) := by decide +kernel
theorem dX0_fire_107 : decode cX0_fire 107 = .ok (.invokevirtual 218, 3) := by decide +kernel
theorem dX0_fire_110 : decode cX0_fire 110 = .ok (.aload_n 0, 1) := by decide +kernel
theorem dX0_fire_111 : decode cX0_fire 111 = .ok (.getfield 96, 3) := by decide +kernel
theorem dX0_fire_114 : decode cX0_fire 114 = .ok (.ifCond .ne 7, 3) := by decide +kernel
theorem dX0_fire_117 : decode cX0_fire 117 = .ok (.iconst 1, 1) := by decide +kernel
theorem dX0_fire_118 : decode cX0_fire 118 = .ok (.goto 4, 3) := by decide +kernel
theorem dX0_fire_121 : decode cX0_fire 121 = .ok (.iconst 0, 1) := by decide +kernel
theorem dX0_fire_122 : decode cX0_fire 122 = .ok (.ireturn, 1) := by decide +kernel
theorem dX0_cause_0 : decode cX0_cause 0 = .ok (.aload_n 3, 1) := by decide +kernel
theorem dX0_cause_1 : decode cX0_cause 1 = .ok (.getfield 222, 3) := by decide +kernel
theorem dX0_cause_4 : decode cX0_cause 4 = .ok (.astore 4, 2) := by decide +kernel
theorem dX0_cause_6 : decode cX0_cause 6 = .ok (.aload 4, 2) := by decide +kernel
theorem dX0_cause_8 : decode cX0_cause 8 = .ok (.ifnull 17, 3) := by decide +kernel
theorem dX0_cause_11 : decode cX0_cause 11 = .ok (.aload_n 3, 1) := by decide +kernel
theorem dX0_cause_12 : decode cX0_cause 12 = .ok (.getfield 162, 3) := by decide +kernel
theorem dX0_cause_15 : decode cX0_cause 15 = .ok (.aload_n 0, 1) := by decide +kernel
theorem dX0_cause_16 : decode cX0_cause 16 = .ok (.getfield 12, 3) := by decide +kernel
theorem dX0_cause_19 : decode cX0_cause 19 = .ok (.getfield 225, 3) := by decide +kernel
theorem dX0_cause_22 : decode cX0_cause 22 = .ok (.if_icmp .lt 10, 3) := by decide +kernel
theorem dX0_cause_25 : decode cX0_cause 25 = .ok (.aload_n 0, 1) := by decide +kernel
theorem dX0_cause_26 : decode cX0_cause 26 = .ok (.iconst 2, 1) := by decide +kernel
theorem dX0_cause_27 : decode cX0_cause 27 = .ok (.iload_n 1, 1) := by decide +kernel
theorem dX0_cause_28 : decode cX0_cause 28 = .ok (.invokevirtual 159, 3) := by decide +kernel
theorem dX0_cause_31 : decode cX0_cause 31 = .ok (.return_, 1) := by decide +kernel
theorem dX0_cause_32 : decode cX0_cause 32 = .ok (.aload_n 0, 1) := by decide +kernel
theorem dX0_cause_33 : decode cX0_cause 33 = .ok (.aload_n 2, 1) := by decide +kernel
theorem dX0_cause_34 : decode cX0_cause 34 = .ok (.aload_n 3, 1) := by decide +kernel
theorem dX0_cause_35 : decode cX0_cause 35 = .ok (.getfield 63, 3) := by decide +kernel
theorem dX0_cause_38 : decode cX0_cause 38 = .ok (.aload 4, 2) := by decide +kernel
theorem dX0_cause_40 : decode cX0_cause 40 = .ok (.getfield 63, 3) := by decide +kernel
theorem dX0_cause_43 : decode cX0_cause 43 = .ok (.invokevirtual 228, 3) := by decide +kernel
theorem dX0_cause_46 : decode cX0_cause 46 = .ok (.ifCond .eq 28, 3) := by decide +kernel
theorem dX0_cause_49 : decode cX0_cause 49 = .ok (.aload_n 0, 1) := by decide +kernel
theorem dX0_cause_50 : decode cX0_cause 50 = .ok (.iload_n 1, 1) := by decide +kernel
theorem dX0_cause_51 : decode cX0_cause 51 = .ok (.iconst 1, 1) := by decide +kernel
theorem dX0_cause_52 : decode cX0_cause 52 = .ok (.invokevirtual 232, 3) := by decide +kernel
theorem dX0_cause_55 : decode cX0_cause 55 = .ok (.aload_n 0, 1) := by decide +kernel
theorem dX0_cause_56 : decode cX0_cause 56 = .ok (.aload_n 2, 1) := by decide +kernel
theorem dX0_cause_57 : decode cX0_cause 57 = .ok (.getfield 147, 3) := by decide +kernel
theorem dX0_cause_60 : decode cX0_cause 60 = .ok (.iconst 3, 1) := by decide +kernel
theorem dX0_cause_61 : decode cX0_cause 61 = .ok (.isub, 1) := by decide +kernel
theorem dX0_cause_62 : decode cX0_cause 62 = .ok (.aload 4, 2) := by decide +kernel
theorem dX0_cause_64 : decode cX0_cause 64 = .ok (.iload_n 1, 1) := by decide +kernel
theorem dX0_cause_65 : decode cX0_cause 65 = .ok (.invokevirtual 92, 3) := by decide +kernel
theorem dX0_cause_68 : decode cX0_cause 68 = .ok (.aload_n 0, 1) := by decide +kernel
theorem dX0_cause_69 : decode cX0_cause 69 = .ok (.iload_n 1, 1) := by decide +kernel
theorem dX0_cause_70 : decode cX0_cause 70 = .ok (.iconst 0, 1) := by decide +kernel
theorem dX0_cause_71 : decode cX0_cause 71 = .ok (.invokevirtual 232, 3) := by decide +kernel
theorem dX0_cause_74 : decode cX0_cause 74 = .ok (.return_, 1) := by decide +kernel
theorem dX0_isHeldBack_0 : decode cX0_isHeldBack 0 = .ok (.aload_n 0, 1) := by decide +kernel
theorem dX0_isHeldBack_1 : decode cX0_isHeldBack 1 = .ok (.getfield 12, 3) := by decide +kernel
theorem dX0_isHeldBack_4 : decode cX0_isHeldBack 4 = .ok (.getfield 236, 3) := by decide +kernel
theorem dX0_isHeldBack_7 : decode cX0_isHeldBack 7 = .ok (.iconst 1, 1) := by decide +kernel
theorem dX0_isHeldBack_8 : decode cX0_isHeldBack 8 = .ok (.if_icmp .ne 29, 3) := by decide +kernel
theorem dX0_isHeldBack_11 : decode cX0_isHeldBack 11 = .ok (.iload_n 1, 1) := by decide +kernel
theorem dX0_isHeldBack_12 : decode cX0_isHeldBack 12 = .ok (.ifCond .lt 25, 3) := by decide +kernel
theorem dX0_isHeldBack_15 : decode cX0_isHeldBack 15 = .ok (.iload_n 1, 1) := by decide +kernel
theorem dX0_isHeldBack_16 : decode cX0_isHeldBack 16 = .ok (.aload_n 0, 1) := by decide +kernel
theorem dX0_isHeldBack_17 : decode cX0_isHeldBack 17 = .ok (.getfield 18, 3) := by decide +kernel
theorem dX0_isHeldBack_20 : decode cX0_isHeldBack 20 = .ok (.arraylength, 1) := by decide +kernel
theorem dX0_isHeldBack_21 : decode cX0_isHeldBack 21 = .ok (.if_icmp .ge 16, 3) := by decide +kernel
theorem dX0_isHeldBack_24 : decode cX0_isHeldBack 24 = .ok (.aload_n 0, 1) := by decide +kernel
theorem dX0_isHeldBack_25 : decode cX0_isHeldBack 25 = .ok (.getfield 18, 3) := by decide +kernel
theorem dX0_isHeldBack_28 : decode cX0_isHeldBack 28 = .ok (.iload_n 1, 1) := by decide +kernel
theorem dX0_isHeldBack_29 : decode cX0_isHeldBack 29 = .ok (.baload, 1) := by decide +kernel
theorem dX0_isHeldBack_30 : decode cX0_isHeldBack 30 = .ok (.ifCond .eq 7, 3) := by decide +kernel
theorem dX0_isHeldBack_33 : decode cX0_isHeldBack 33 = .ok (.iconst 1, 1) := by decide +kernel
theorem dX0_isHeldBack_34 : decode cX0_isHeldBack 34 = .ok (.goto 4, 3) := by decide +kernel
theorem dX0_isHeldBack_37 : decode cX0_isHeldBack 37 = .ok (.iconst 0, 1) := by decide +kernel
theorem dX0_isHeldBack_38 : decode cX0_isHeldBack 38 = .ok (.ireturn, 1) := by decide +kernel
theorem dX0_mark_0 : decode cX0_mark 0 = .ok (.iload_n 1, 1) := by decide +kernel
theorem dX0_mark_1 : decode cX0_mark 1 = .ok (.ifCond .lt 19, 3) := by decide +kernel
theorem dX0_mark_4 : decode cX0_mark 4 = .ok (.iload_n 1, 1) := by decide +kernel
theorem dX0_mark_5 : decode cX0_mark 5 = .ok (.aload_n 0, 1) := by decide +kernel
theorem dX0_mark_6 : decode cX0_mark 6 = .ok (.getfield 18, 3) := by decide +kernel
theorem dX0_mark_9 : decode cX0_mark 9 = .ok (.arraylength, 1) := by decide +kernel
theorem dX0_mark_10 : decode cX0_mark 10 = .ok (.if_icmp .ge 10, 3) := by decide +kernel
theorem dX0_mark_13 : decode cX0_mark 13 = .ok (.aload_n 0, 1) := by decide +kernel
theorem dX0_mark_14 : decode cX0_mark 14 = .ok (.getfield 18, 3) := by decide +kernel
theorem dX0_mark_17 : decode cX0_mark 17 = .ok (.iload_n 1, 1) := by decide +kernel
theorem dX0_mark_18 : decode cX0_mark 18 = .ok (.iload_n 2, 1) := by decide +kernel
theorem dX0_mark_19 : decode cX0_mark 19 = .ok (.bastore, 1) := by decide +kernel
theorem dX0_mark_20 : decode cX0_mark 20 = .ok (.return_, 1) := by decide +kernel
theorem dX0_refuse_0 : decode cX0_refuse 0 = .ok (.aload_n 0, 1) := by decide +kernel
theorem dX0_refuse_1 : decode cX0_refuse 1 = .ok (.iload_n 1, 1) := by decide +kernel
theorem dX0_refuse_2 : decode cX0_refuse 2 = .ok (.putfield 96, 3) := by decide +kernel
theorem dX0_refuse_5 : decode cX0_refuse 5 = .ok (.aload_n 0, 1) := by decide +kernel
theorem dX0_refuse_6 : decode cX0_refuse 6 = .ok (.iload_n 2, 1) := by decide +kernel
theorem dX0_refuse_7 : decode cX0_refuse 7 = .ok (.putfield 121, 3) := by decide +kernel
theorem dX0_refuse_10 : decode cX0_refuse 10 = .ok (.return_, 1) := by decide +kernel
theorem dX1_init_0 : decode cX1_init 0 = .ok (.aload_n 0, 1) := by decide +kernel
theorem dX1_init_1 : decode cX1_init 1 = .ok (.invokespecial 3, 3) := by decide +kernel
theorem dX1_init_4 : decode cX1_init 4 = .ok (.aload_n 0, 1) := by decide +kernel
theorem dX1_init_5 : decode cX1_init 5 = .ok (.bipush 60, 2) := by decide +kernel
theorem dX1_init_7 : decode cX1_init 7 = .ok (.newarray .int, 2) := by decide +kernel
theorem dX1_init_9 : decode cX1_init 9 = .ok (.putfield 9, 3) := by decide +kernel
theorem dX1_init_12 : decode cX1_init 12 = .ok (.aload_n 0, 1) := by decide +kernel
theorem dX1_init_13 : decode cX1_init 13 = .ok (.bipush 60, 2) := by decide +kernel
theorem dX1_init_15 : decode cX1_init 15 = .ok (.newarray .int, 2) := by decide +kernel
theorem dX1_init_17 : decode cX1_init 17 = .ok (.putfield 15, 3) := by decide +kernel
theorem dX1_init_20 : decode cX1_init 20 = .ok (.aload_n 0, 1) := by decide +kernel
theorem dX1_init_21 : decode cX1_init 21 = .ok (.bipush 60, 2) := by decide +kernel
theorem dX1_init_23 : decode cX1_init 23 = .ok (.newarray .int, 2) := by decide +kernel
theorem dX1_init_25 : decode cX1_init 25 = .ok (.putfield 18, 3) := by decide +kernel
theorem dX1_init_28 : decode cX1_init 28 = .ok (.return_, 1) := by decide +kernel
theorem dX1_add_0 : decode cX1_add 0 = .ok (.aload_n 0, 1) := by decide +kernel
theorem dX1_add_1 : decode cX1_add 1 = .ok (.getfield 21, 3) := by decide +kernel
theorem dX1_add_4 : decode cX1_add 4 = .ok (.ifCond .lt 12, 3) := by decide +kernel
theorem dX1_add_7 : decode cX1_add 7 = .ok (.aload_n 0, 1) := by decide +kernel
theorem dX1_add_8 : decode cX1_add 8 = .ok (.getfield 21, 3) := by decide +kernel
theorem dX1_add_11 : decode cX1_add 11 = .ok (.bipush 60, 2) := by decide +kernel
theorem dX1_add_13 : decode cX1_add 13 = .ok (.if_icmp .lt 4, 3) := by decide +kernel
theorem dX1_add_16 : decode cX1_add 16 = .ok (.return_, 1) := by decide +kernel
theorem dX1_add_17 : decode cX1_add 17 = .ok (.aload_n 0, 1) := by decide +kernel
theorem dX1_add_18 : decode cX1_add 18 = .ok (.getfield 9, 3) := by decide +kernel
theorem dX1_add_21 : decode cX1_add 21 = .ok (.aload_n 0, 1) := by decide +kernel
theorem dX1_add_22 : decode cX1_add 22 = .ok (.getfield 21, 3) := by decide +kernel
theorem dX1_add_25 : decode cX1_add 25 = .ok (.iload_n 1, 1) := by decide +kernel
theorem dX1_add_26 : decode cX1_add 26 = .ok (.iastore, 1) := by decide +kernel
theorem dX1_add_27 : decode cX1_add 27 = .ok (.aload_n 0, 1) := by decide +kernel
theorem dX1_add_28 : decode cX1_add 28 = .ok (.getfield 15, 3) := by decide +kernel
theorem dX1_add_31 : decode cX1_add 31 = .ok (.aload_n 0, 1) := by decide +kernel
theorem dX1_add_32 : decode cX1_add 32 = .ok (.getfield 21, 3) := by decide +kernel
theorem dX1_add_35 : decode cX1_add 35 = .ok (.iload_n 2, 1) := by decide +kernel
theorem dX1_add_36 : decode cX1_add 36 = .ok (.iastore, 1) := by decide +kernel
theorem dX1_add_37 : decode cX1_add 37 = .ok (.aload_n 0, 1) := by decide +kernel
theorem dX1_add_38 : decode cX1_add 38 = .ok (.getfield 18, 3) := by decide +kernel
theorem dX1_add_41 : decode cX1_add 41 = .ok (.aload_n 0, 1) := by decide +kernel
theorem dX1_add_42 : decode cX1_add 42 = .ok (.getfield 21, 3) := by decide +kernel
theorem dX1_add_45 : decode cX1_add 45 = .ok (.iload_n 3, 1) := by decide +kernel
theorem dX1_add_46 : decode cX1_add 46 = .ok (.iastore, 1) := by decide +kernel
theorem dX1_add_47 : decode cX1_add 47 = .ok (.aload_n 0, 1) := by decide +kernel
theorem dX1_add_48 : decode cX1_add 48 = .ok (.dup, 1) := by decide +kernel
theorem dX1_add_49 : decode cX1_add 49 = .ok (.getfield 21, 3) := by decide +kernel
theorem dX1_add_52 : decode cX1_add 52 = .ok (.iconst 1, 1) := by decide +kernel
theorem dX1_add_53 : decode cX1_add 53 = .ok (.iadd, 1) := by decide +kernel
theorem dX1_add_54 : decode cX1_add 54 = .ok (.putfield 21, 3) := by decide +kernel
theorem dX1_add_57 : decode cX1_add 57 = .ok (.return_, 1) := by decide +kernel
theorem dX1_tell_0 : decode cX1_tell 0 = .ok (.iload_n 1, 1) := by decide +kernel
theorem dX1_tell_1 : decode cX1_tell 1 = .ok (.ifCond .lt 17, 3) := by decide +kernel
theorem dX1_tell_4 : decode cX1_tell 4 = .ok (.iload_n 1, 1) := by decide +kernel
theorem dX1_tell_5 : decode cX1_tell 5 = .ok (.aload_n 0, 1) := by decide +kernel
theorem dX1_tell_6 : decode cX1_tell 6 = .ok (.getfield 21, 3) := by decide +kernel
theorem dX1_tell_9 : decode cX1_tell 9 = .ok (.if_icmp .ge 9, 3) := by decide +kernel
theorem dX1_tell_12 : decode cX1_tell 12 = .ok (.iload_n 1, 1) := by decide +kernel
theorem dX1_tell_13 : decode cX1_tell 13 = .ok (.bipush 60, 2) := by decide +kernel
theorem dX1_tell_15 : decode cX1_tell 15 = .ok (.if_icmp .lt 7, 3) := by decide +kernel
theorem dX1_tell_18 : decode cX1_tell 18 = .ok (.sipush (-1006), 3) := by decide +kernel
theorem dX1_tell_21 : decode cX1_tell 21 = .ok (.ireturn, 1) := by decide +kernel
theorem dX1_tell_22 : decode cX1_tell 22 = .ok (.iload_n 2, 1) := by decide +kernel
theorem dX1_tell_23 : decode cX1_tell 23 = .ok (.lookupswitch 39 #[(0, 25), (1, 32)], 25) := by decide +kernel
theorem dX1_tell_48 : decode cX1_tell 48 = .ok (.aload_n 0, 1) := by decide +kernel
theorem dX1_tell_49 : decode cX1_tell 49 = .ok (.getfield 9, 3) := by decide +kernel
theorem dX1_tell_52 : decode cX1_tell 52 = .ok (.iload_n 1, 1) := by decide +kernel
theorem dX1_tell_53 : decode cX1_tell 53 = .ok (.iaload, 1) := by decide +kernel
theorem dX1_tell_54 : decode cX1_tell 54 = .ok (.ireturn, 1) := by decide +kernel
theorem dX1_tell_55 : decode cX1_tell 55 = .ok (.aload_n 0, 1) := by decide +kernel
theorem dX1_tell_56 : decode cX1_tell 56 = .ok (.getfield 15, 3) := by decide +kernel
theorem dX1_tell_59 : decode cX1_tell 59 = .ok (.iload_n 1, 1) := by decide +kernel
theorem dX1_tell_60 : decode cX1_tell 60 = .ok (.iaload, 1) := by decide +kernel
theorem dX1_tell_61 : decode cX1_tell 61 = .ok (.ireturn, 1) := by decide +kernel
theorem dX1_tell_62 : decode cX1_tell 62 = .ok (.aload_n 0, 1) := by decide +kernel
theorem dX1_tell_63 : decode cX1_tell 63 = .ok (.getfield 18, 3) := by decide +kernel
theorem dX1_tell_66 : decode cX1_tell 66 = .ok (.iload_n 1, 1) := by decide +kernel
theorem dX1_tell_67 : decode cX1_tell 67 = .ok (.iaload, 1) := by decide +kernel
theorem dX1_tell_68 : decode cX1_tell 68 = .ok (.ireturn, 1) := by decide +kernel
theorem dX1_copyFrom_0 : decode cX1_copyFrom 0 = .ok (.aload_n 0, 1) := by decide +kernel
theorem dX1_copyFrom_1 : decode cX1_copyFrom 1 = .ok (.aload_n 1, 1) := by decide +kernel
theorem dX1_copyFrom_2 : decode cX1_copyFrom 2 = .ok (.getfield 21, 3) := by decide +kernel
theorem dX1_copyFrom_5 : decode cX1_copyFrom 5 = .ok (.putfield 21, 3) := by decide +kernel
theorem dX1_copyFrom_8 : decode cX1_copyFrom 8 = .ok (.aload_n 1, 1) := by decide +kernel
theorem dX1_copyFrom_9 : decode cX1_copyFrom 9 = .ok (.getfield 9, 3) := by decide +kernel
theorem dX1_copyFrom_12 : decode cX1_copyFrom 12 = .ok (.iconst 0, 1) := by decide +kernel
theorem dX1_copyFrom_13 : decode cX1_copyFrom 13 = .ok (.aload_n 0, 1) := by decide +kernel
theorem dX1_copyFrom_14 : decode cX1_copyFrom 14 = .ok (.getfield 9, 3) := by decide +kernel
theorem dX1_copyFrom_17 : decode cX1_copyFrom 17 = .ok (.iconst 0, 1) := by decide +kernel
theorem dX1_copyFrom_18 : decode cX1_copyFrom 18 = .ok (.bipush 60, 2) := by decide +kernel
theorem dX1_copyFrom_20 : decode cX1_copyFrom 20 = .ok (.invokestatic 25, 3) := by decide +kernel
theorem dX1_copyFrom_23 : decode cX1_copyFrom 23 = .ok (.aload_n 1, 1) := by decide +kernel
theorem dX1_copyFrom_24 : decode cX1_copyFrom 24 = .ok (.getfield 15, 3) := by decide +kernel
theorem dX1_copyFrom_27 : decode cX1_copyFrom 27 = .ok (.iconst 0, 1) := by decide +kernel
theorem dX1_copyFrom_28 : decode cX1_copyFrom 28 = .ok (.aload_n 0, 1) := by decide +kernel
theorem dX1_copyFrom_29 : decode cX1_copyFrom 29 = .ok (.getfield 15, 3) := by decide +kernel
theorem dX1_copyFrom_32 : decode cX1_copyFrom 32 = .ok (.iconst 0, 1) := by decide +kernel
theorem dX1_copyFrom_33 : decode cX1_copyFrom 33 = .ok (.bipush 60, 2) := by decide +kernel
theorem dX1_copyFrom_35 : decode cX1_copyFrom 35 = .ok (.invokestatic 25, 3) := by decide +kernel
theorem dX1_copyFrom_38 : decode cX1_copyFrom 38 = .ok (.aload_n 1, 1) := by decide +kernel
theorem dX1_copyFrom_39 : decode cX1_copyFrom 39 = .ok (.getfield 18, 3) := by decide +kernel
theorem dX1_copyFrom_42 : decode cX1_copyFrom 42 = .ok (.iconst 0, 1) := by decide +kernel
theorem dX1_copyFrom_43 : decode cX1_copyFrom 43 = .ok (.aload_n 0, 1) := by decide +kernel
theorem dX1_copyFrom_44 : decode cX1_copyFrom 44 = .ok (.getfield 18, 3) := by decide +kernel
theorem dX1_copyFrom_47 : decode cX1_copyFrom 47 = .ok (.iconst 0, 1) := by decide +kernel
theorem dX1_copyFrom_48 : decode cX1_copyFrom 48 = .ok (.bipush 60, 2) := by decide +kernel
theorem dX1_copyFrom_50 : decode cX1_copyFrom 50 = .ok (.invokestatic 25, 3) := by decide +kernel
theorem dX1_copyFrom_53 : decode cX1_copyFrom 53 = .ok (.return_, 1) := by decide +kernel
theorem dX2_init_0 : decode cX2_init 0 = .ok (.aload_n 0, 1) := by decide +kernel
theorem dX2_init_1 : decode cX2_init 1 = .ok (.invokespecial 3, 3) := by decide +kernel
theorem dX2_init_4 : decode cX2_init 4 = .ok (.aload_n 0, 1) := by decide +kernel
theorem dX2_init_5 : decode cX2_init 5 = .ok (.iconst 4, 1) := by decide +kernel
theorem dX2_init_6 : decode cX2_init 6 = .ok (.anewarray 9, 3) := by decide +kernel
theorem dX2_init_9 : decode cX2_init 9 = .ok (.putfield 11, 3) := by decide +kernel
theorem dX2_init_12 : decode cX2_init 12 = .ok (.iconst 0, 1) := by decide +kernel
theorem dX2_init_13 : decode cX2_init 13 = .ok (.istore_n 1, 1) := by decide +kernel
theorem dX2_init_14 : decode cX2_init 14 = .ok (.iload_n 1, 1) := by decide +kernel
theorem dX2_init_15 : decode cX2_init 15 = .ok (.aload_n 0, 1) := by decide +kernel
theorem dX2_init_16 : decode cX2_init 16 = .ok (.getfield 11, 3) := by decide +kernel
theorem dX2_init_19 : decode cX2_init 19 = .ok (.arraylength, 1) := by decide +kernel
theorem dX2_init_20 : decode cX2_init 20 = .ok (.if_icmp .ge 22, 3) := by decide +kernel
theorem dX2_init_23 : decode cX2_init 23 = .ok (.aload_n 0, 1) := by decide +kernel
theorem dX2_init_24 : decode cX2_init 24 = .ok (.getfield 11, 3) := by decide +kernel
theorem dX2_init_27 : decode cX2_init 27 = .ok (.iload_n 1, 1) := by decide +kernel
theorem dX2_init_28 : decode cX2_init 28 = .ok (.new 9, 3) := by decide +kernel
theorem dX2_init_31 : decode cX2_init 31 = .ok (.dup, 1) := by decide +kernel
theorem dX2_init_32 : decode cX2_init 32 = .ok (.invokespecial 17, 3) := by decide +kernel
theorem dX2_init_35 : decode cX2_init 35 = .ok (.aastore, 1) := by decide +kernel
theorem dX2_init_36 : decode cX2_init 36 = .ok (.iinc 1 1, 3) := by decide +kernel
theorem dX2_init_39 : decode cX2_init 39 = .ok (.goto (-25), 3) := by decide +kernel
theorem dX2_init_42 : decode cX2_init 42 = .ok (.return_, 1) := by decide +kernel
theorem dX2_push_0 : decode cX2_push 0 = .ok (.aload_n 0, 1) := by decide +kernel
theorem dX2_push_1 : decode cX2_push 1 = .ok (.getfield 18, 3) := by decide +kernel
theorem dX2_push_4 : decode cX2_push 4 = .ok (.iconst 4, 1) := by decide +kernel
theorem dX2_push_5 : decode cX2_push 5 = .ok (.if_icmp .lt 7, 3) := by decide +kernel
theorem dX2_push_8 : decode cX2_push 8 = .ok (.aload_n 0, 1) := by decide +kernel
theorem dX2_push_9 : decode cX2_push 9 = .ok (.invokevirtual 22, 3) := by decide +kernel
theorem dX2_push_12 : decode cX2_push 12 = .ok (.aload_n 0, 1) := by decide +kernel
theorem dX2_push_13 : decode cX2_push 13 = .ok (.getfield 18, 3) := by decide +kernel
theorem dX2_push_16 : decode cX2_push 16 = .ok (.ifCond .lt 15, 3) := by decide +kernel
theorem dX2_push_19 : decode cX2_push 19 = .ok (.aload_n 0, 1) := by decide +kernel
theorem dX2_push_20 : decode cX2_push 20 = .ok (.getfield 18, 3) := by decide +kernel
theorem dX2_push_23 : decode cX2_push 23 = .ok (.aload_n 0, 1) := by decide +kernel
theorem dX2_push_24 : decode cX2_push 24 = .ok (.getfield 11, 3) := by decide +kernel
theorem dX2_push_27 : decode cX2_push 27 = .ok (.arraylength, 1) := by decide +kernel
theorem dX2_push_28 : decode cX2_push 28 = .ok (.if_icmp .lt 4, 3) := by decide +kernel
theorem dX2_push_31 : decode cX2_push 31 = .ok (.return_, 1) := by decide +kernel
theorem dX2_push_32 : decode cX2_push 32 = .ok (.aload_n 0, 1) := by decide +kernel
theorem dX2_push_33 : decode cX2_push 33 = .ok (.getfield 11, 3) := by decide +kernel
theorem dX2_push_36 : decode cX2_push 36 = .ok (.aload_n 0, 1) := by decide +kernel
theorem dX2_push_37 : decode cX2_push 37 = .ok (.getfield 18, 3) := by decide +kernel
theorem dX2_push_40 : decode cX2_push 40 = .ok (.aaload, 1) := by decide +kernel
theorem dX2_push_41 : decode cX2_push 41 = .ok (.astore_n 2, 1) := by decide +kernel
theorem dX2_push_42 : decode cX2_push 42 = .ok (.aload_n 2, 1) := by decide +kernel
theorem dX2_push_43 : decode cX2_push 43 = .ok (.ifnull 18, 3) := by decide +kernel
theorem dX2_push_46 : decode cX2_push 46 = .ok (.aload_n 2, 1) := by decide +kernel
theorem dX2_push_47 : decode cX2_push 47 = .ok (.aload_n 1, 1) := by decide +kernel
theorem dX2_push_48 : decode cX2_push 48 = .ok (.invokevirtual 25, 3) := by decide +kernel
theorem dX2_push_51 : decode cX2_push 51 = .ok (.aload_n 0, 1) := by decide +kernel
theorem dX2_push_52 : decode cX2_push 52 = .ok (.dup, 1) := by decide +kernel
theorem dX2_push_53 : decode cX2_push 53 = .ok (.getfield 18, 3) := by decide +kernel
theorem dX2_push_56 : decode cX2_push 56 = .ok (.iconst 1, 1) := by decide +kernel
theorem dX2_push_57 : decode cX2_push 57 = .ok (.iadd, 1) := by decide +kernel
theorem dX2_push_58 : decode cX2_push 58 = .ok (.putfield 18, 3) := by decide +kernel
theorem dX2_push_61 : decode cX2_push 61 = .ok (.return_, 1) := by decide +kernel
theorem dX2_popInto_0 : decode cX2_popInto 0 = .ok (.aload_n 0, 1) := by decide +kernel
theorem dX2_popInto_1 : decode cX2_popInto 1 = .ok (.getfield 18, 3) := by decide +kernel
theorem dX2_popInto_4 : decode cX2_popInto 4 = .ok (.iconst 1, 1) := by decide +kernel
theorem dX2_popInto_5 : decode cX2_popInto 5 = .ok (.if_icmp .lt 15, 3) := by decide +kernel
theorem dX2_popInto_8 : decode cX2_popInto 8 = .ok (.aload_n 0, 1) := by decide +kernel
theorem dX2_popInto_9 : decode cX2_popInto 9 = .ok (.getfield 18, 3) := by decide +kernel
theorem dX2_popInto_12 : decode cX2_popInto 12 = .ok (.aload_n 0, 1) := by decide +kernel
theorem dX2_popInto_13 : decode cX2_popInto 13 = .ok (.getfield 11, 3) := by decide +kernel
theorem dX2_popInto_16 : decode cX2_popInto 16 = .ok (.arraylength, 1) := by decide +kernel
theorem dX2_popInto_17 : decode cX2_popInto 17 = .ok (.if_icmp .le 5, 3) := by decide +kernel
theorem dX2_popInto_20 : decode cX2_popInto 20 = .ok (.iconst 0, 1) := by decide +kernel
theorem dX2_popInto_21 : decode cX2_popInto 21 = .ok (.ireturn, 1) := by decide +kernel
theorem dX2_popInto_22 : decode cX2_popInto 22 = .ok (.aload_n 0, 1) := by decide +kernel
theorem dX2_popInto_23 : decode cX2_popInto 23 = .ok (.getfield 11, 3) := by decide +kernel
theorem dX2_popInto_26 : decode cX2_popInto 26 = .ok (.aload_n 0, 1) := by decide +kernel
theorem dX2_popInto_27 : decode cX2_popInto 27 = .ok (.getfield 18, 3) := by decide +kernel
theorem dX2_popInto_30 : decode cX2_popInto 30 = .ok (.iconst 1, 1) := by decide +kernel
theorem dX2_popInto_31 : decode cX2_popInto 31 = .ok (.isub, 1) := by decide +kernel
theorem dX2_popInto_32 : decode cX2_popInto 32 = .ok (.aaload, 1) := by decide +kernel
theorem dX2_popInto_33 : decode cX2_popInto 33 = .ok (.astore_n 2, 1) := by decide +kernel
theorem dX2_popInto_34 : decode cX2_popInto 34 = .ok (.aload_n 2, 1) := by decide +kernel
theorem dX2_popInto_35 : decode cX2_popInto 35 = .ok (.ifnonnull 5, 3) := by decide +kernel
theorem dX2_popInto_38 : decode cX2_popInto 38 = .ok (.iconst 0, 1) := by decide +kernel
theorem dX2_popInto_39 : decode cX2_popInto 39 = .ok (.ireturn, 1) := by decide +kernel
theorem dX2_popInto_40 : decode cX2_popInto 40 = .ok (.aload_n 1, 1) := by decide +kernel
theorem dX2_popInto_41 : decode cX2_popInto 41 = .ok (.aload_n 2, 1) := by decide +kernel
theorem dX2_popInto_42 : decode cX2_popInto 42 = .ok (.invokevirtual 25, 3) := by decide +kernel
theorem dX2_popInto_45 : decode cX2_popInto 45 = .ok (.aload_n 0, 1) := by decide +kernel
theorem dX2_popInto_46 : decode cX2_popInto 46 = .ok (.dup, 1) := by decide +kernel
theorem dX2_popInto_47 : decode cX2_popInto 47 = .ok (.getfield 18, 3) := by decide +kernel
theorem dX2_popInto_50 : decode cX2_popInto 50 = .ok (.iconst 1, 1) := by decide +kernel
theorem dX2_popInto_51 : decode cX2_popInto 51 = .ok (.isub, 1) := by decide +kernel
theorem dX2_popInto_52 : decode cX2_popInto 52 = .ok (.putfield 18, 3) := by decide +kernel
theorem dX2_popInto_55 : decode cX2_popInto 55 = .ok (.iconst 1, 1) := by decide +kernel
theorem dX2_popInto_56 : decode cX2_popInto 56 = .ok (.ireturn, 1) := by decide +kernel
theorem dX2_dropOldest_0 : decode cX2_dropOldest 0 = .ok (.iconst 1, 1) := by decide +kernel
theorem dX2_dropOldest_1 : decode cX2_dropOldest 1 = .ok (.istore_n 1, 1) := by decide +kernel
theorem dX2_dropOldest_2 : decode cX2_dropOldest 2 = .ok (.iload_n 1, 1) := by decide +kernel
theorem dX2_dropOldest_3 : decode cX2_dropOldest 3 = .ok (.aload_n 0, 1) := by decide +kernel
theorem dX2_dropOldest_4 : decode cX2_dropOldest 4 = .ok (.getfield 11, 3) := by decide +kernel
theorem dX2_dropOldest_7 : decode cX2_dropOldest 7 = .ok (.arraylength, 1) := by decide +kernel
theorem dX2_dropOldest_8 : decode cX2_dropOldest 8 = .ok (.if_icmp .ge 39, 3) := by decide +kernel
theorem dX2_dropOldest_11 : decode cX2_dropOldest 11 = .ok (.aload_n 0, 1) := by decide +kernel
theorem dX2_dropOldest_12 : decode cX2_dropOldest 12 = .ok (.getfield 11, 3) := by decide +kernel
theorem dX2_dropOldest_15 : decode cX2_dropOldest 15 = .ok (.iload_n 1, 1) := by decide +kernel
theorem dX2_dropOldest_16 : decode cX2_dropOldest 16 = .ok (.aaload, 1) := by decide +kernel
theorem dX2_dropOldest_17 : decode cX2_dropOldest 17 = .ok (.astore_n 2, 1) := by decide +kernel
theorem dX2_dropOldest_18 : decode cX2_dropOldest 18 = .ok (.aload_n 0, 1) := by decide +kernel
theorem dX2_dropOldest_19 : decode cX2_dropOldest 19 = .ok (.getfield 11, 3) := by decide +kernel
theorem dX2_dropOldest_22 : decode cX2_dropOldest 22 = .ok (.iload_n 1, 1) := by decide +kernel
theorem dX2_dropOldest_23 : decode cX2_dropOldest 23 = .ok (.aload_n 0, 1) := by decide +kernel
theorem dX2_dropOldest_24 : decode cX2_dropOldest 24 = .ok (.getfield 11, 3) := by decide +kernel
theorem dX2_dropOldest_27 : decode cX2_dropOldest 27 = .ok (.iload_n 1, 1) := by decide +kernel
theorem dX2_dropOldest_28 : decode cX2_dropOldest 28 = .ok (.iconst 1, 1) := by decide +kernel
theorem dX2_dropOldest_29 : decode cX2_dropOldest 29 = .ok (.isub, 1) := by decide +kernel
theorem dX2_dropOldest_30 : decode cX2_dropOldest 30 = .ok (.aaload, 1) := by decide +kernel
theorem dX2_dropOldest_31 : decode cX2_dropOldest 31 = .ok (.aastore, 1) := by decide +kernel
theorem dX2_dropOldest_32 : decode cX2_dropOldest 32 = .ok (.aload_n 0, 1) := by decide +kernel
theorem dX2_dropOldest_33 : decode cX2_dropOldest 33 = .ok (.getfield 11, 3) := by decide +kernel
theorem dX2_dropOldest_36 : decode cX2_dropOldest 36 = .ok (.iload_n 1, 1) := by decide +kernel
theorem dX2_dropOldest_37 : decode cX2_dropOldest 37 = .ok (.iconst 1, 1) := by decide +kernel
theorem dX2_dropOldest_38 : decode cX2_dropOldest 38 = .ok (.isub, 1) := by decide +kernel
theorem dX2_dropOldest_39 : decode cX2_dropOldest 39 = .ok (.aload_n 2, 1) := by decide +kernel
theorem dX2_dropOldest_40 : decode cX2_dropOldest 40 = .ok (.aastore, 1) := by decide +kernel
theorem dX2_dropOldest_41 : decode cX2_dropOldest 41 = .ok (.iinc 1 1, 3) := by decide +kernel
theorem dX2_dropOldest_44 : decode cX2_dropOldest 44 = .ok (.goto (-42), 3) := by decide +kernel
theorem dX2_dropOldest_47 : decode cX2_dropOldest 47 = .ok (.aload_n 0, 1) := by decide +kernel
theorem dX2_dropOldest_48 : decode cX2_dropOldest 48 = .ok (.dup, 1) := by decide +kernel
theorem dX2_dropOldest_49 : decode cX2_dropOldest 49 = .ok (.getfield 18, 3) := by decide +kernel
theorem dX2_dropOldest_52 : decode cX2_dropOldest 52 = .ok (.iconst 1, 1) := by decide +kernel
theorem dX2_dropOldest_53 : decode cX2_dropOldest 53 = .ok (.isub, 1) := by decide +kernel
theorem dX2_dropOldest_54 : decode cX2_dropOldest 54 = .ok (.putfield 18, 3) := by decide +kernel
theorem dX2_dropOldest_57 : decode cX2_dropOldest 57 = .ok (.return_, 1) := by decide +kernel
theorem dX3_init_0 : decode cX3_init 0 = .ok (.aload_n 0, 1) := by decide +kernel
theorem dX3_init_1 : decode cX3_init 1 = .ok (.invokespecial 1, 3) := by decide +kernel
theorem dX3_init_4 : decode cX3_init 4 = .ok (.aload_n 0, 1) := by decide +kernel
theorem dX3_init_5 : decode cX3_init 5 = .ok (.new 7, 3) := by decide +kernel
theorem dX3_init_8 : decode cX3_init 8 = .ok (.dup, 1) := by decide +kernel
theorem dX3_init_9 : decode cX3_init 9 = .ok (.invokespecial 9, 3) := by decide +kernel
theorem dX3_init_12 : decode cX3_init 12 = .ok (.putfield 10, 3) := by decide +kernel
theorem dX3_init_15 : decode cX3_init 15 = .ok (.aload_n 0, 1) := by decide +kernel
theorem dX3_init_16 : decode cX3_init 16 = .ok (.iload_n 1, 1) := by decide +kernel
theorem dX3_init_17 : decode cX3_init 17 = .ok (.putfield 16, 3) := by decide +kernel
theorem dX3_init_20 : decode cX3_init 20 = .ok (.aload_n 0, 1) := by decide +kernel
theorem dX3_init_21 : decode cX3_init 21 = .ok (.aload_n 2, 1) := by decide +kernel
theorem dX3_init_22 : decode cX3_init 22 = .ok (.putfield 20, 3) := by decide +kernel
theorem dX3_init_25 : decode cX3_init 25 = .ok (.return_, 1) := by decide +kernel
theorem dX4_init_0 : decode cX4_init 0 = .ok (.aload_n 0, 1) := by decide +kernel
theorem dX4_init_1 : decode cX4_init 1 = .ok (.invokespecial 1, 3) := by decide +kernel
theorem dX4_init_4 : decode cX4_init 4 = .ok (.return_, 1) := by decide +kernel
theorem dX4_fill_0 : decode cX4_fill 0 = .ok (.aload_n 0, 1) := by decide +kernel
theorem dX4_fill_1 : decode cX4_fill 1 = .ok (.iload_n 1, 1) := by decide +kernel
theorem dX4_fill_2 : decode cX4_fill 2 = .ok (.putfield 7, 3) := by decide +kernel
theorem dX4_fill_5 : decode cX4_fill 5 = .ok (.aload_n 0, 1) := by decide +kernel
theorem dX4_fill_6 : decode cX4_fill 6 = .ok (.iload_n 2, 1) := by decide +kernel
theorem dX4_fill_7 : decode cX4_fill 7 = .ok (.putfield 13, 3) := by decide +kernel
theorem dX4_fill_10 : decode cX4_fill 10 = .ok (.aload_n 0, 1) := by decide +kernel
theorem dX4_fill_11 : decode cX4_fill 11 = .ok (.iload_n 3, 1) := by decide +kernel
theorem dX4_fill_12 : decode cX4_fill 12 = .ok (.putfield 16, 3) := by decide +kernel
theorem dX4_fill_15 : decode cX4_fill 15 = .ok (.aload_n 0, 1) := by decide +kernel
theorem dX4_fill_16 : decode cX4_fill 16 = .ok (.iload 4, 2) := by decide +kernel
theorem dX4_fill_18 : decode cX4_fill 18 = .ok (.putfield 19, 3) := by decide +kernel
theorem dX4_fill_21 : decode cX4_fill 21 = .ok (.return_, 1) := by decide +kernel
theorem dX4_copyFrom_0 : decode cX4_copyFrom 0 = .ok (.aload_n 0, 1) := by decide +kernel
theorem dX4_copyFrom_1 : decode cX4_copyFrom 1 = .ok (.aload_n 1, 1) := by decide +kernel
theorem dX4_copyFrom_2 : decode cX4_copyFrom 2 = .ok (.getfield 7, 3) := by decide +kernel
theorem dX4_copyFrom_5 : decode cX4_copyFrom 5 = .ok (.putfield 7, 3) := by decide +kernel
theorem dX4_copyFrom_8 : decode cX4_copyFrom 8 = .ok (.aload_n 0, 1) := by decide +kernel
theorem dX4_copyFrom_9 : decode cX4_copyFrom 9 = .ok (.aload_n 1, 1) := by decide +kernel
theorem dX4_copyFrom_10 : decode cX4_copyFrom 10 = .ok (.getfield 13, 3) := by decide +kernel
theorem dX4_copyFrom_13 : decode cX4_copyFrom 13 = .ok (.putfield 13, 3) := by decide +kernel
theorem dX4_copyFrom_16 : decode cX4_copyFrom 16 = .ok (.aload_n 0, 1) := by decide +kernel
theorem dX4_copyFrom_17 : decode cX4_copyFrom 17 = .ok (.aload_n 1, 1) := by decide +kernel
theorem dX4_copyFrom_18 : decode cX4_copyFrom 18 = .ok (.getfield 16, 3) := by decide +kernel
theorem dX4_copyFrom_21 : decode cX4_copyFrom 21 = .ok (.putfield 16, 3) := by decide +kernel
theorem dX4_copyFrom_24 : decode cX4_copyFrom 24 = .ok (.aload_n 0, 1) := by decide +kernel
theorem dX4_copyFrom_25 : decode cX4_copyFrom 25 = .ok (.aload_n 1, 1) := by decide +kernel
theorem dX4_copyFrom_26 : decode cX4_copyFrom 26 = .ok (.getfield 19, 3) := by decide +kernel
theorem dX4_copyFrom_29 : decode cX4_copyFrom 29 = .ok (.putfield 19, 3) := by decide +kernel
theorem dX4_copyFrom_32 : decode cX4_copyFrom 32 = .ok (.return_, 1) := by decide +kernel
theorem dX4_valueOf_0 : decode cX4_valueOf 0 = .ok (.iload_n 1, 1) := by decide +kernel
theorem dX4_valueOf_1 : decode cX4_valueOf 1 = .ok (.tableswitch 42 0 2 #[27, 32, 37], 27) := by decide +kernel
theorem dX4_valueOf_28 : decode cX4_valueOf 28 = .ok (.aload_n 0, 1) := by decide +kernel
theorem dX4_valueOf_29 : decode cX4_valueOf 29 = .ok (.getfield 13, 3) := by decide +kernel
theorem dX4_valueOf_32 : decode cX4_valueOf 32 = .ok (.ireturn, 1) := by decide +kernel
theorem dX4_valueOf_33 : decode cX4_valueOf 33 = .ok (.aload_n 0, 1) := by decide +kernel
theorem dX4_valueOf_34 : decode cX4_valueOf 34 = .ok (.getfield 16, 3) := by decide +kernel
theorem dX4_valueOf_37 : decode cX4_valueOf 37 = .ok (.ireturn, 1) := by decide +kernel
theorem dX4_valueOf_38 : decode cX4_valueOf 38 = .ok (.aload_n 0, 1) := by decide +kernel
theorem dX4_valueOf_39 : decode cX4_valueOf 39 = .ok (.getfield 19, 3) := by decide +kernel
theorem dX4_valueOf_42 : decode cX4_valueOf 42 = .ok (.ireturn, 1) := by decide +kernel
theorem dX4_valueOf_43 : decode cX4_valueOf 43 = .ok (.aload_n 0, 1) := by decide +kernel
theorem dX4_valueOf_44 : decode cX4_valueOf 44 = .ok (.getfield 7, 3) := by decide +kernel
theorem dX4_valueOf_47 : decode cX4_valueOf 47 = .ok (.ireturn, 1) := by decide +kernel
theorem dX4_change_0 : decode cX4_change 0 = .ok (.iload_n 1, 1) := by decide +kernel
theorem dX4_change_1 : decode cX4_change 1 = .ok (.lookupswitch 43 #[(0, 27), (1, 35)], 27) := by decide +kernel
theorem dX4_change_28 : decode cX4_change 28 = .ok (.aload_n 0, 1) := by decide +kernel
theorem dX4_change_29 : decode cX4_change 29 = .ok (.iload_n 2, 1) := by decide +kernel
theorem dX4_change_30 : decode cX4_change 30 = .ok (.putfield 13, 3) := by decide +kernel
theorem dX4_change_33 : decode cX4_change 33 = .ok (.goto 16, 3) := by decide +kernel
theorem dX4_change_36 : decode cX4_change 36 = .ok (.aload_n 0, 1) := by decide +kernel
theorem dX4_change_37 : decode cX4_change 37 = .ok (.iload_n 2, 1) := by decide +kernel
theorem dX4_change_38 : decode cX4_change 38 = .ok (.putfield 16, 3) := by decide +kernel
theorem dX4_change_41 : decode cX4_change 41 = .ok (.goto 8, 3) := by decide +kernel
theorem dX4_change_44 : decode cX4_change 44 = .ok (.aload_n 0, 1) := by decide +kernel
theorem dX4_change_45 : decode cX4_change 45 = .ok (.iload_n 2, 1) := by decide +kernel
theorem dX4_change_46 : decode cX4_change 46 = .ok (.putfield 19, 3) := by decide +kernel
theorem dX4_change_49 : decode cX4_change 49 = .ok (.return_, 1) := by decide +kernel
theorem dX5_init_0 : decode cX5_init 0 = .ok (.aload_n 0, 1) := by decide +kernel
theorem dX5_init_1 : decode cX5_init 1 = .ok (.invokespecial 3, 3) := by decide +kernel
theorem dX5_init_4 : decode cX5_init 4 = .ok (.return_, 1) := by decide +kernel
theorem dX5_define_0 : decode cX5_define 0 = .ok (.aload_n 0, 1) := by decide +kernel
theorem dX5_define_1 : decode cX5_define 1 = .ok (.iload_n 1, 1) := by decide +kernel
theorem dX5_define_2 : decode cX5_define 2 = .ok (.putfield 9, 3) := by decide +kernel
theorem dX5_define_5 : decode cX5_define 5 = .ok (.aload_n 0, 1) := by decide +kernel
theorem dX5_define_6 : decode cX5_define 6 = .ok (.iload_n 2, 1) := by decide +kernel
theorem dX5_define_7 : decode cX5_define 7 = .ok (.putfield 15, 3) := by decide +kernel
theorem dX5_define_10 : decode cX5_define 10 = .ok (.aload_n 0, 1) := by decide +kernel
theorem dX5_define_11 : decode cX5_define 11 = .ok (.iload_n 3, 1) := by decide +kernel
theorem dX5_define_12 : decode cX5_define 12 = .ok (.putfield 18, 3) := by decide +kernel
theorem dX5_define_15 : decode cX5_define 15 = .ok (.aload_n 0, 1) := by decide +kernel
theorem dX5_define_16 : decode cX5_define 16 = .ok (.iload 4, 2) := by decide +kernel
theorem dX5_define_18 : decode cX5_define 18 = .ok (.putfield 21, 3) := by decide +kernel
theorem dX5_define_21 : decode cX5_define 21 = .ok (.aload_n 0, 1) := by decide +kernel
theorem dX5_define_22 : decode cX5_define 22 = .ok (.iload 5, 2) := by decide +kernel
theorem dX5_define_24 : decode cX5_define 24 = .ok (.putfield 24, 3) := by decide +kernel
theorem dX5_define_27 : decode cX5_define 27 = .ok (.aload_n 0, 1) := by decide +kernel
theorem dX5_define_28 : decode cX5_define 28 = .ok (.iload 6, 2) := by decide +kernel
theorem dX5_define_30 : decode cX5_define 30 = .ok (.putfield 27, 3) := by decide +kernel
theorem dX5_define_33 : decode cX5_define 33 = .ok (.aload_n 0, 1) := by decide +kernel
theorem dX5_define_34 : decode cX5_define 34 = .ok (.iload 7, 2) := by decide +kernel
theorem dX5_define_36 : decode cX5_define 36 = .ok (.putfield 30, 3) := by decide +kernel
theorem dX5_define_39 : decode cX5_define 39 = .ok (.aload_n 0, 1) := by decide +kernel
theorem dX5_define_40 : decode cX5_define 40 = .ok (.iconst 3, 1) := by decide +kernel
theorem dX5_define_41 : decode cX5_define 41 = .ok (.iconst 4, 1) := by decide +kernel
theorem dX5_define_42 : decode cX5_define 42 = .ok (.iconst 0, 1) := by decide +kernel
theorem dX5_define_43 : decode cX5_define 43 = .ok (.invokevirtual 33, 3) := by decide +kernel
theorem dX5_define_46 : decode cX5_define 46 = .ok (.aload_n 0, 1) := by decide +kernel
theorem dX5_define_47 : decode cX5_define 47 = .ok (.iconst 1, 1) := by decide +kernel
theorem dX5_define_48 : decode cX5_define 48 = .ok (.putfield 37, 3) := by decide +kernel
theorem dX5_define_51 : decode cX5_define 51 = .ok (.aload_n 0, 1) := by decide +kernel
theorem dX5_define_52 : decode cX5_define 52 = .ok (.iconst 0, 1) := by decide +kernel
theorem dX5_define_53 : decode cX5_define 53 = .ok (.putfield 41, 3) := by decide +kernel
theorem dX5_define_56 : decode cX5_define 56 = .ok (.return_, 1) := by decide +kernel
theorem dX5_demand_0 : decode cX5_demand 0 = .ok (.aload_n 0, 1) := by decide +kernel
theorem dX5_demand_1 : decode cX5_demand 1 = .ok (.iload_n 1, 1) := by decide +kernel
theorem dX5_demand_2 : decode cX5_demand 2 = .ok (.putfield 44, 3) := by decide +kernel
theorem dX5_demand_5 : decode cX5_demand 5 = .ok (.aload_n 0, 1) := by decide +kernel
theorem dX5_demand_6 : decode cX5_demand 6 = .ok (.iload_n 2, 1) := by decide +kernel
theorem dX5_demand_7 : decode cX5_demand 7 = .ok (.putfield 47, 3) := by decide +kernel
theorem dX5_demand_10 : decode cX5_demand 10 = .ok (.aload_n 0, 1) := by decide +kernel
theorem dX5_demand_11 : decode cX5_demand 11 = .ok (.iload_n 3, 1) := by decide +kernel
theorem dX5_demand_12 : decode cX5_demand 12 = .ok (.putfield 50, 3) := by decide +kernel
theorem dX5_demand_15 : decode cX5_demand 15 = .ok (.return_, 1) := by decide +kernel
theorem dX5_copyFrom_0 : decode cX5_copyFrom 0 = .ok (.aload_n 0, 1) := by decide +kernel
theorem dX5_copyFrom_1 : decode cX5_copyFrom 1 = .ok (.aload_n 1, 1) := by decide +kernel
theorem dX5_copyFrom_2 : decode cX5_copyFrom 2 = .ok (.getfield 9, 3) := by decide +kernel
theorem dX5_copyFrom_5 : decode cX5_copyFrom 5 = .ok (.aload_n 1, 1) := by decide +kernel
theorem dX5_copyFrom_6 : decode cX5_copyFrom 6 = .ok (.getfield 15, 3) := by decide +kernel
theorem dX5_copyFrom_9 : decode cX5_copyFrom 9 = .ok (.aload_n 1, 1) := by decide +kernel
theorem dX5_copyFrom_10 : decode cX5_copyFrom 10 = .ok (.getfield 18, 3) := by decide +kernel
theorem dX5_copyFrom_13 : decode cX5_copyFrom 13 = .ok (.aload_n 1, 1) := by decide +kernel
theorem dX5_copyFrom_14 : decode cX5_copyFrom 14 = .ok (.getfield 21, 3) := by decide +kernel
theorem dX5_copyFrom_17 : decode cX5_copyFrom 17 = .ok (.aload_n 1, 1) := by decide +kernel
theorem dX5_copyFrom_18 : decode cX5_copyFrom 18 = .ok (.getfield 24, 3) := by decide +kernel
theorem dX5_copyFrom_21 : decode cX5_copyFrom 21 = .ok (.aload_n 1, 1) := by decide +kernel
theorem dX5_copyFrom_22 : decode cX5_copyFrom 22 = .ok (.getfield 27, 3) := by decide +kernel
theorem dX5_copyFrom_25 : decode cX5_copyFrom 25 = .ok (.aload_n 1, 1) := by decide +kernel
theorem dX5_copyFrom_26 : decode cX5_copyFrom 26 = .ok (.getfield 30, 3) := by decide +kernel
theorem dX5_copyFrom_29 : decode cX5_copyFrom 29 = .ok (.invokevirtual 53, 3) := by decide +kernel
theorem dX5_copyFrom_32 : decode cX5_copyFrom 32 = .ok (.aload_n 0, 1) := by decide +kernel
theorem dX5_copyFrom_33 : decode cX5_copyFrom 33 = .ok (.aload_n 1, 1) := by decide +kernel
theorem dX5_copyFrom_34 : decode cX5_copyFrom 34 = .ok (.getfield 44, 3) := by decide +kernel
theorem dX5_copyFrom_37 : decode cX5_copyFrom 37 = .ok (.aload_n 1, 1) := by decide +kernel
theorem dX5_copyFrom_38 : decode cX5_copyFrom 38 = .ok (.getfield 47, 3) := by decide +kernel
theorem dX5_copyFrom_41 : decode cX5_copyFrom 41 = .ok (.aload_n 1, 1) := by decide +kernel
theorem dX5_copyFrom_42 : decode cX5_copyFrom 42 = .ok (.getfield 50, 3) := by decide +kernel
theorem dX5_copyFrom_45 : decode cX5_copyFrom 45 = .ok (.invokevirtual 33, 3) := by decide +kernel
theorem dX5_copyFrom_48 : decode cX5_copyFrom 48 = .ok (.aload_n 0, 1) := by decide +kernel
theorem dX5_copyFrom_49 : decode cX5_copyFrom 49 = .ok (.aload_n 1, 1) := by decide +kernel
theorem dX5_copyFrom_50 : decode cX5_copyFrom 50 = .ok (.getfield 37, 3) := by decide +kernel
theorem dX5_copyFrom_53 : decode cX5_copyFrom 53 = .ok (.putfield 37, 3) := by decide +kernel
theorem dX5_copyFrom_56 : decode cX5_copyFrom 56 = .ok (.aload_n 0, 1) := by decide +kernel
theorem dX5_copyFrom_57 : decode cX5_copyFrom 57 = .ok (.aload_n 1, 1) := by decide +kernel
theorem dX5_copyFrom_58 : decode cX5_copyFrom 58 = .ok (.getfield 41, 3) := by decide +kernel
theorem dX5_copyFrom_61 : decode cX5_copyFrom 61 = .ok (.putfield 41, 3) := by decide +kernel
theorem dX5_copyFrom_64 : decode cX5_copyFrom 64 = .ok (.return_, 1) := by decide +kernel
theorem dX5_isFor_0 : decode cX5_isFor 0 = .ok (.aload_n 0, 1) := by decide +kernel
theorem dX5_isFor_1 : decode cX5_isFor 1 = .ok (.getfield 9, 3) := by decide +kernel
theorem dX5_isFor_4 : decode cX5_isFor 4 = .ok (.iload_n 1, 1) := by decide +kernel
theorem dX5_isFor_5 : decode cX5_isFor 5 = .ok (.if_icmp .ne 15, 3) := by decide +kernel
theorem dX5_isFor_8 : decode cX5_isFor 8 = .ok (.aload_n 0, 1) := by decide +kernel
theorem dX5_isFor_9 : decode cX5_isFor 9 = .ok (.getfield 15, 3) := by decide +kernel
theorem dX5_isFor_12 : decode cX5_isFor 12 = .ok (.iload_n 2, 1) := by decide +kernel
theorem dX5_isFor_13 : decode cX5_isFor 13 = .ok (.if_icmp .ne 7, 3) := by decide +kernel
theorem dX5_isFor_16 : decode cX5_isFor 16 = .ok (.iconst 1, 1) := by decide +kernel
theorem dX5_isFor_17 : decode cX5_isFor 17 = .ok (.goto 4, 3) := by decide +kernel
theorem dX5_isFor_20 : decode cX5_isFor 20 = .ok (.iconst 0, 1) := by decide +kernel
theorem dX5_isFor_21 : decode cX5_isFor 21 = .ok (.ireturn, 1) := by decide +kernel
theorem dX5_holdsFor_0 : decode cX5_holdsFor 0 = .ok (.aload_n 1, 1) := by decide +kernel
theorem dX5_holdsFor_1 : decode cX5_holdsFor 1 = .ok (.aload_n 0, 1) := by decide +kernel
theorem dX5_holdsFor_2 : decode cX5_holdsFor 2 = .ok (.getfield 44, 3) := by decide +kernel
theorem dX5_holdsFor_5 : decode cX5_holdsFor 5 = .ok (.invokevirtual 57, 3) := by decide +kernel
theorem dX5_holdsFor_8 : decode cX5_holdsFor 8 = .ok (.istore_n 2, 1) := by decide +kernel
theorem dX5_holdsFor_9 : decode cX5_holdsFor 9 = .ok (.aload_n 0, 1) := by decide +kernel
theorem dX5_holdsFor_10 : decode cX5_holdsFor 10 = .ok (.getfield 47, 3) := by decide +kernel
theorem dX5_holdsFor_13 : decode cX5_holdsFor 13 = .ok (.tableswitch 105 0 4 #[35, 49, 63, 77, 91], 35) := by decide +kernel
theorem dX5_holdsFor_48 : decode cX5_holdsFor 48 = .ok (.iload_n 2, 1) := by decide +kernel
theorem dX5_holdsFor_49 : decode cX5_holdsFor 49 = .ok (.aload_n 0, 1) := by decide +kernel
theorem dX5_holdsFor_50 : decode cX5_holdsFor 50 = .ok (.getfield 50, 3) := by decide +kernel
theorem dX5_holdsFor_53 : decode cX5_holdsFor 53 = .ok (.if_icmp .ge 7, 3) := by decide +kernel
theorem dX5_holdsFor_56 : decode cX5_holdsFor 56 = .ok (.iconst 1, 1) := by decide +kernel
theorem dX5_holdsFor_57 : decode cX5_holdsFor 57 = .ok (.goto 4, 3) := by decide +kernel
theorem dX5_holdsFor_60 : decode cX5_holdsFor 60 = .ok (.iconst 0, 1) := by decide +kernel
theorem dX5_holdsFor_61 : decode cX5_holdsFor 61 = .ok (.ireturn, 1) := by decide +kernel
theorem dX5_holdsFor_62 : decode cX5_holdsFor 62 = .ok (.iload_n 2, 1) := by decide +kernel
theorem dX5_holdsFor_63 : decode cX5_holdsFor 63 = .ok (.aload_n 0, 1) := by decide +kernel
theorem dX5_holdsFor_64 : decode cX5_holdsFor 64 = .ok (.getfield 50, 3) := by decide +kernel
theorem dX5_holdsFor_67 : decode cX5_holdsFor 67 = .ok (.if_icmp .gt 7, 3) := by decide +kernel
theorem dX5_holdsFor_70 : decode cX5_holdsFor 70 = .ok (.iconst 1, 1) := by decide +kernel
theorem dX5_holdsFor_71 : decode cX5_holdsFor 71 = .ok (.goto 4, 3) := by decide +kernel
theorem dX5_holdsFor_74 : decode cX5_holdsFor 74 = .ok (.iconst 0, 1) := by decide +kernel
theorem dX5_holdsFor_75 : decode cX5_holdsFor 75 = .ok (.ireturn, 1) := by decide +kernel
theorem dX5_holdsFor_76 : decode cX5_holdsFor 76 = .ok (.iload_n 2, 1) := by decide +kernel
theorem dX5_holdsFor_77 : decode cX5_holdsFor 77 = .ok (.aload_n 0, 1) := by decide +kernel
theorem dX5_holdsFor_78 : decode cX5_holdsFor 78 = .ok (.getfield 50, 3) := by decide +kernel
theorem dX5_holdsFor_81 : decode cX5_holdsFor 81 = .ok (.if_icmp .ne 7, 3) := by decide +kernel
theorem dX5_holdsFor_84 : decode cX5_holdsFor 84 = .ok (.iconst 1, 1) := by decide +kernel
theorem dX5_holdsFor_85 : decode cX5_holdsFor 85 = .ok (.goto 4, 3) := by decide +kernel
theorem dX5_holdsFor_88 : decode cX5_holdsFor 88 = .ok (.iconst 0, 1) := by decide +kernel
theorem dX5_holdsFor_89 : decode cX5_holdsFor 89 = .ok (.ireturn, 1) := by decide +kernel
theorem dX5_holdsFor_90 : decode cX5_holdsFor 90 = .ok (.iload_n 2, 1) := by decide +kernel
theorem dX5_holdsFor_91 : decode cX5_holdsFor 91 = .ok (.aload_n 0, 1) := by decide +kernel
theorem dX5_holdsFor_92 : decode cX5_holdsFor 92 = .ok (.getfield 50, 3) := by decide +kernel
theorem dX5_holdsFor_95 : decode cX5_holdsFor 95 = .ok (.if_icmp .eq 7, 3) := by decide +kernel
theorem dX5_holdsFor_98 : decode cX5_holdsFor 98 = .ok (.iconst 1, 1) := by decide +kernel
theorem dX5_holdsFor_99 : decode cX5_holdsFor 99 = .ok (.goto 4, 3) := by decide +kernel
theorem dX5_holdsFor_102 : decode cX5_holdsFor 102 = .ok (.iconst 0, 1) := by decide +kernel
theorem dX5_holdsFor_103 : decode cX5_holdsFor 103 = .ok (.ireturn, 1) := by decide +kernel
theorem dX5_holdsFor_104 : decode cX5_holdsFor 104 = .ok (.iload_n 2, 1) := by decide +kernel
theorem dX5_holdsFor_105 : decode cX5_holdsFor 105 = .ok (.aload_n 0, 1) := by decide +kernel
theorem dX5_holdsFor_106 : decode cX5_holdsFor 106 = .ok (.getfield 50, 3) := by decide +kernel
theorem dX5_holdsFor_109 : decode cX5_holdsFor 109 = .ok (.if_icmp .lt 7, 3) := by decide +kernel
theorem dX5_holdsFor_112 : decode cX5_holdsFor 112 = .ok (.iconst 1, 1) := by decide +kernel
theorem dX5_holdsFor_113 : decode cX5_holdsFor 113 = .ok (.goto 4, 3) := by decide +kernel
theorem dX5_holdsFor_116 : decode cX5_holdsFor 116 = .ok (.iconst 0, 1) := by decide +kernel
theorem dX5_holdsFor_117 : decode cX5_holdsFor 117 = .ok (.ireturn, 1) := by decide +kernel
theorem dX5_holdsFor_118 : decode cX5_holdsFor 118 = .ok (.iload_n 2, 1) := by decide +kernel
theorem dX5_holdsFor_119 : decode cX5_holdsFor 119 = .ok (.aload_n 0, 1) := by decide +kernel
theorem dX5_holdsFor_120 : decode cX5_holdsFor 120 = .ok (.getfield 50, 3) := by decide +kernel
theorem dX5_holdsFor_123 : decode cX5_holdsFor 123 = .ok (.if_icmp .le 7, 3) := by decide +kernel
theorem dX5_holdsFor_126 : decode cX5_holdsFor 126 = .ok (.iconst 1, 1) := by decide +kernel
theorem dX5_holdsFor_127 : decode cX5_holdsFor 127 = .ok (.goto 4, 3) := by decide +kernel
theorem dX5_holdsFor_130 : decode cX5_holdsFor 130 = .ok (.iconst 0, 1) := by decide +kernel
theorem dX5_holdsFor_131 : decode cX5_holdsFor 131 = .ok (.ireturn, 1) := by decide +kernel
theorem dX5_valueFor_0 : decode cX5_valueFor 0 = .ok (.sipush (-999), 3) := by decide +kernel
theorem dX5_valueFor_3 : decode cX5_valueFor 3 = .ok (.sipush 999, 3) := by decide +kernel
theorem dX5_valueFor_6 : decode cX5_valueFor 6 = .ok (.aload_n 1, 1) := by decide +kernel
theorem dX5_valueFor_7 : decode cX5_valueFor 7 = .ok (.aload_n 0, 1) := by decide +kernel
theorem dX5_valueFor_8 : decode cX5_valueFor 8 = .ok (.getfield 27, 3) := by decide +kernel
theorem dX5_valueFor_11 : decode cX5_valueFor 11 = .ok (.invokevirtual 57, 3) := by decide +kernel
theorem dX5_valueFor_14 : decode cX5_valueFor 14 = .ok (.aload_n 0, 1) := by decide +kernel
theorem dX5_valueFor_15 : decode cX5_valueFor 15 = .ok (.getfield 30, 3) := by decide +kernel
theorem dX5_valueFor_18 : decode cX5_valueFor 18 = .ok (.iadd, 1) := by decide +kernel
theorem dX5_valueFor_19 : decode cX5_valueFor 19 = .ok (.invokestatic 63, 3) := by decide +kernel
theorem dX5_valueFor_22 : decode cX5_valueFor 22 = .ok (.invokestatic 69, 3) := by decide +kernel
theorem dX5_valueFor_25 : decode cX5_valueFor 25 = .ok (.ireturn, 1) := by decide +kernel
theorem dX5_tell_0 : decode cX5_tell 0 = .ok (.iload_n 1, 1) := by decide +kernel
theorem dX5_tell_1 : decode cX5_tell 1 = .ok (.tableswitch 131 0 11 #[63, 68, 73, 78, 83, 88, 93, 98, 103, 108, 113, 126], 63) := by decide +kernel
theorem dX5_tell_64 : decode cX5_tell 64 = .ok (.aload_n 0, 1) := by decide +kernel
theorem dX5_tell_65 : decode cX5_tell 65 = .ok (.getfield 9, 3) := by decide +kernel
theorem dX5_tell_68 : decode cX5_tell 68 = .ok (.ireturn, 1) := by decide +kernel
theorem dX5_tell_69 : decode cX5_tell 69 = .ok (.aload_n 0, 1) := by decide +kernel
theorem dX5_tell_70 : decode cX5_tell 70 = .ok (.getfield 15, 3) := by decide +kernel
theorem dX5_tell_73 : decode cX5_tell 73 = .ok (.ireturn, 1) := by decide +kernel
theorem dX5_tell_74 : decode cX5_tell 74 = .ok (.aload_n 0, 1) := by decide +kernel
theorem dX5_tell_75 : decode cX5_tell 75 = .ok (.getfield 18, 3) := by decide +kernel
theorem dX5_tell_78 : decode cX5_tell 78 = .ok (.ireturn, 1) := by decide +kernel
theorem dX5_tell_79 : decode cX5_tell 79 = .ok (.aload_n 0, 1) := by decide +kernel
theorem dX5_tell_80 : decode cX5_tell 80 = .ok (.getfield 21, 3) := by decide +kernel
theorem dX5_tell_83 : decode cX5_tell 83 = .ok (.ireturn, 1) := by decide +kernel
theorem dX5_tell_84 : decode cX5_tell 84 = .ok (.aload_n 0, 1) := by decide +kernel
theorem dX5_tell_85 : decode cX5_tell 85 = .ok (.getfield 24, 3) := by decide +kernel
theorem dX5_tell_88 : decode cX5_tell 88 = .ok (.ireturn, 1) := by decide +kernel
theorem dX5_tell_89 : decode cX5_tell 89 = .ok (.aload_n 0, 1) := by decide +kernel
theorem dX5_tell_90 : decode cX5_tell 90 = .ok (.getfield 27, 3) := by decide +kernel
theorem dX5_tell_93 : decode cX5_tell 93 = .ok (.ireturn, 1) := by decide +kernel
theorem dX5_tell_94 : decode cX5_tell 94 = .ok (.aload_n 0, 1) := by decide +kernel
theorem dX5_tell_95 : decode cX5_tell 95 = .ok (.getfield 30, 3) := by decide +kernel
theorem dX5_tell_98 : decode cX5_tell 98 = .ok (.ireturn, 1) := by decide +kernel
theorem dX5_tell_99 : decode cX5_tell 99 = .ok (.aload_n 0, 1) := by decide +kernel
theorem dX5_tell_100 : decode cX5_tell 100 = .ok (.getfield 44, 3) := by decide +kernel
theorem dX5_tell_103 : decode cX5_tell 103 = .ok (.ireturn, 1) := by decide +kernel
theorem dX5_tell_104 : decode cX5_tell 104 = .ok (.aload_n 0, 1) := by decide +kernel
theorem dX5_tell_105 : decode cX5_tell 105 = .ok (.getfield 47, 3) := by decide +kernel
theorem dX5_tell_108 : decode cX5_tell 108 = .ok (.ireturn, 1) := by decide +kernel
theorem dX5_tell_109 : decode cX5_tell 109 = .ok (.aload_n 0, 1) := by decide +kernel
theorem dX5_tell_110 : decode cX5_tell 110 = .ok (.getfield 50, 3) := by decide +kernel
theorem dX5_tell_113 : decode cX5_tell 113 = .ok (.ireturn, 1) := by decide +kernel
theorem dX5_tell_114 : decode cX5_tell 114 = .ok (.aload_n 0, 1) := by decide +kernel
theorem dX5_tell_115 : decode cX5_tell 115 = .ok (.getfield 37, 3) := by decide +kernel
theorem dX5_tell_118 : decode cX5_tell 118 = .ok (.ifCond .eq 7, 3) := by decide +kernel
theorem dX5_tell_121 : decode cX5_tell 121 = .ok (.iconst 1, 1) := by decide +kernel
theorem dX5_tell_122 : decode cX5_tell 122 = .ok (.goto 4, 3) := by decide +kernel
theorem dX5_tell_125 : decode cX5_tell 125 = .ok (.iconst 0, 1) := by decide +kernel
theorem dX5_tell_126 : decode cX5_tell 126 = .ok (.ireturn, 1) := by decide +kernel
theorem dX5_tell_127 : decode cX5_tell 127 = .ok (.aload_n 0, 1) := by decide +kernel
theorem dX5_tell_128 : decode cX5_tell 128 = .ok (.getfield 41, 3) := by decide +kernel
theorem dX5_tell_131 : decode cX5_tell 131 = .ok (.ireturn, 1) := by decide +kernel
theorem dX5_tell_132 : decode cX5_tell 132 = .ok (.sipush (-1002), 3) := by decide +kernel
theorem dX5_tell_135 : decode cX5_tell 135 = .ok (.ireturn, 1) := by decide +kernel
theorem dX6_init_0 : decode cX6_init 0 = .ok (.aload_n 0, 1) := by decide +kernel
theorem dX6_init_1 : decode cX6_init 1 = .ok (.invokespecial 3, 3) := by decide +kernel
theorem dX6_init_4 : decode cX6_init 4 = .ok (.aload_n 0, 1) := by decide +kernel
theorem dX6_init_5 : decode cX6_init 5 = .ok (.bipush 12, 2) := by decide +kernel
theorem dX6_init_7 : decode cX6_init 7 = .ok (.anewarray 9, 3) := by decide +kernel
theorem dX6_init_10 : decode cX6_init 10 = .ok (.putfield 11, 3) := by decide +kernel
theorem dX6_init_13 : decode cX6_init 13 = .ok (.aload_n 0, 1) := by decide +kernel
theorem dX6_init_14 : decode cX6_init 14 = .ok (.bipush 12, 2) := by decide +kernel
theorem dX6_init_16 : decode cX6_init 16 = .ok (.newarray .int, 2) := by decide +kernel
theorem dX6_init_18 : decode cX6_init 18 = .ok (.putfield 17, 3) := by decide +kernel
theorem dX6_init_21 : decode cX6_init 21 = .ok (.iconst 0, 1) := by decide +kernel
theorem dX6_init_22 : decode cX6_init 22 = .ok (.istore_n 1, 1) := by decide +kernel
theorem dX6_init_23 : decode cX6_init 23 = .ok (.iload_n 1, 1) := by decide +kernel
theorem dX6_init_24 : decode cX6_init 24 = .ok (.aload_n 0, 1) := by decide +kernel
theorem dX6_init_25 : decode cX6_init 25 = .ok (.getfield 11, 3) := by decide +kernel
theorem dX6_init_28 : decode cX6_init 28 = .ok (.arraylength, 1) := by decide +kernel
theorem dX6_init_29 : decode cX6_init 29 = .ok (.if_icmp .ge 22, 3) := by decide +kernel
theorem dX6_init_32 : decode cX6_init 32 = .ok (.aload_n 0, 1) := by decide +kernel
theorem dX6_init_33 : decode cX6_init 33 = .ok (.getfield 11, 3) := by decide +kernel
theorem dX6_init_36 : decode cX6_init 36 = .ok (.iload_n 1, 1) := by decide +kernel
theorem dX6_init_37 : decode cX6_init 37 = .ok (.new 9, 3) := by decide +kernel
theorem dX6_init_40 : decode cX6_init 40 = .ok (.dup, 1) := by decide +kernel
theorem dX6_init_41 : decode cX6_init 41 = .ok (.invokespecial 21, 3) := by decide +kernel
theorem dX6_init_44 : decode cX6_init 44 = .ok (.aastore, 1) := by decide +kernel
theorem dX6_init_45 : decode cX6_init 45 = .ok (.iinc 1 1, 3) := by decide +kernel
theorem dX6_init_48 : decode cX6_init 48 = .ok (.goto (-25), 3) := by decide +kernel
theorem dX6_init_51 : decode cX6_init 51 = .ok (.return_, 1) := by decide +kernel
theorem dX6_ruleOf_0 : decode cX6_ruleOf 0 = .ok (.iload_n 1, 1) := by decide +kernel
theorem dX6_ruleOf_1 : decode cX6_ruleOf 1 = .ok (.ifCond .lt 29, 3) := by decide +kernel
theorem dX6_ruleOf_4 : decode cX6_ruleOf 4 = .ok (.iload_n 1, 1) := by decide +kernel
theorem dX6_ruleOf_5 : decode cX6_ruleOf 5 = .ok (.aload_n 0, 1) := by decide +kernel
theorem dX6_ruleOf_6 : decode cX6_ruleOf 6 = .ok (.getfield 22, 3) := by decide +kernel
theorem dX6_ruleOf_9 : decode cX6_ruleOf 9 = .ok (.if_icmp .ge 21, 3) := by decide +kernel
theorem dX6_ruleOf_12 : decode cX6_ruleOf 12 = .ok (.iload_n 1, 1) := by decide +kernel
theorem dX6_ruleOf_13 : decode cX6_ruleOf 13 = .ok (.aload_n 0, 1) := by decide +kernel
theorem dX6_ruleOf_14 : decode cX6_ruleOf 14 = .ok (.getfield 11, 3) := by decide +kernel
theorem dX6_ruleOf_17 : decode cX6_ruleOf 17 = .ok (.arraylength, 1) := by decide +kernel
theorem dX6_ruleOf_18 : decode cX6_ruleOf 18 = .ok (.if_icmp .ge 12, 3) := by decide +kernel
theorem dX6_ruleOf_21 : decode cX6_ruleOf 21 = .ok (.aload_n 0, 1) := by decide +kernel
theorem dX6_ruleOf_22 : decode cX6_ruleOf 22 = .ok (.getfield 11, 3) := by decide +kernel
theorem dX6_ruleOf_25 : decode cX6_ruleOf 25 = .ok (.iload_n 1, 1) := by decide +kernel
theorem dX6_ruleOf_26 : decode cX6_ruleOf 26 = .ok (.aaload, 1) := by decide +kernel
theorem dX6_ruleOf_27 : decode cX6_ruleOf 27 = .ok (.goto 4, 3) := by decide +kernel
theorem dX6_ruleOf_30 : decode cX6_ruleOf 30 = .ok (.aconst_null, 1) := by decide +kernel
theorem dX6_ruleOf_31 : decode cX6_ruleOf 31 = .ok (.areturn, 1) := by decide +kernel
theorem dX6_numberAt_0 : decode cX6_numberAt 0 = .ok (.iload_n 1, 1) := by decide +kernel
theorem dX6_numberAt_1 : decode cX6_numberAt 1 = .ok (.ifCond .lt 29, 3) := by decide +kernel
theorem dX6_numberAt_4 : decode cX6_numberAt 4 = .ok (.iload_n 1, 1) := by decide +kernel
theorem dX6_numberAt_5 : decode cX6_numberAt 5 = .ok (.aload_n 0, 1) := by decide +kernel
theorem dX6_numberAt_6 : decode cX6_numberAt 6 = .ok (.getfield 22, 3) := by decide +kernel
theorem dX6_numberAt_9 : decode cX6_numberAt 9 = .ok (.if_icmp .ge 21, 3) := by decide +kernel
theorem dX6_numberAt_12 : decode cX6_numberAt 12 = .ok (.iload_n 1, 1) := by decide +kernel
theorem dX6_numberAt_13 : decode cX6_numberAt 13 = .ok (.aload_n 0, 1) := by decide +kernel
theorem dX6_numberAt_14 : decode cX6_numberAt 14 = .ok (.getfield 17, 3) := by decide +kernel
theorem dX6_numberAt_17 : decode cX6_numberAt 17 = .ok (.arraylength, 1) := by decide +kernel
theorem dX6_numberAt_18 : decode cX6_numberAt 18 = .ok (.if_icmp .ge 12, 3) := by decide +kernel
theorem dX6_numberAt_21 : decode cX6_numberAt 21 = .ok (.aload_n 0, 1) := by decide +kernel
theorem dX6_numberAt_22 : decode cX6_numberAt 22 = .ok (.getfield 17, 3) := by decide +kernel
theorem dX6_numberAt_25 : decode cX6_numberAt 25 = .ok (.iload_n 1, 1) := by decide +kernel
theorem dX6_numberAt_26 : decode cX6_numberAt 26 = .ok (.iaload, 1) := by decide +kernel
theorem dX6_numberAt_27 : decode cX6_numberAt 27 = .ok (.goto 6, 3) := by decide +kernel
theorem dX6_numberAt_30 : decode cX6_numberAt 30 = .ok (.sipush (-1006), 3) := by decide +kernel
theorem dX6_numberAt_33 : decode cX6_numberAt 33 = .ok (.ireturn, 1) := by decide +kernel
theorem dX6_numberAmong_0 : decode cX6_numberAmong 0 = .ok (.iconst 0, 1) := by decide +kernel
theorem dX6_numberAmong_1 : decode cX6_numberAmong 1 = .ok (.istore 4, 2) := by decide +kernel
theorem dX6_numberAmong_3 : decode cX6_numberAmong 3 = .ok (.iconst 0, 1) := by decide +kernel
theorem dX6_numberAmong_4 : decode cX6_numberAmong 4 = .ok (.istore 5, 2) := by decide +kernel
theorem dX6_numberAmong_6 : decode cX6_numberAmong 6 = .ok (.iload 5, 2) := by decide +kernel
theorem dX6_numberAmong_8 : decode cX6_numberAmong 8 = .ok (.aload_n 0, 1) := by decide +kernel
theorem dX6_numberAmong_9 : decode cX6_numberAmong 9 = .ok (.getfield 22, 3) := by decide +kernel
theorem dX6_numberAmong_12 : decode cX6_numberAmong 12 = .ok (.if_icmp .ge 52, 3) := by decide +kernel
theorem dX6_numberAmong_15 : decode cX6_numberAmong 15 = .ok (.aload_n 0, 1) := by decide +kernel
theorem dX6_numberAmong_16 : decode cX6_numberAmong 16 = .ok (.iload 5, 2) := by decide +kernel
theorem dX6_numberAmong_18 : decode cX6_numberAmong 18 = .ok (.invokevirtual 26, 3) := by decide +kernel
theorem dX6_numberAmong_21 : decode cX6_numberAmong 21 = .ok (.istore 6, 2) := by decide +kernel
theorem dX6_numberAmong_23 : decode cX6_numberAmong 23 = .ok (.aload_n 0, 1) := by decide +kernel
theorem dX6_numberAmong_24 : decode cX6_numberAmong 24 = .ok (.iload 6, 2) := by decide +kernel
theorem dX6_numberAmong_26 : decode cX6_numberAmong 26 = .ok (.invokevirtual 30, 3) := by decide +kernel
theorem dX6_numberAmong_29 : decode cX6_numberAmong 29 = .ok (.astore 7, 2) := by decide +kernel
theorem dX6_numberAmong_31 : decode cX6_numberAmong 31 = .ok (.aload 7, 2) := by decide +kernel
theorem dX6_numberAmong_33 : decode cX6_numberAmong 33 = .ok (.ifnull 25, 3) := by decide +kernel
theorem dX6_numberAmong_36 : decode cX6_numberAmong 36 = .ok (.aload 7, 2) := by decide +kernel
theorem dX6_numberAmong_38 : decode cX6_numberAmong 38 = .ok (.iload_n 1, 1) := by decide +kernel
theorem dX6_numberAmong_39 : decode cX6_numberAmong 39 = .ok (.iload_n 2, 1) := by decide +kernel
theorem dX6_numberAmong_40 : decode cX6_numberAmong 40 = .ok (.invokevirtual 34, 3) := by decide +kernel
theorem dX6_numberAmong_43 : decode cX6_numberAmong 43 = .ok (.ifCond .eq 15, 3) := by decide +kernel
theorem dX6_numberAmong_46 : decode cX6_numberAmong 46 = .ok (.iload 4, 2) := by decide +kernel
theorem dX6_numberAmong_48 : decode cX6_numberAmong 48 = .ok (.iload_n 3, 1) := by decide +kernel
theorem dX6_numberAmong_49 : decode cX6_numberAmong 49 = .ok (.if_icmp .ne 6, 3) := by decide +kernel
theorem dX6_numberAmong_52 : decode cX6_numberAmong 52 = .ok (.iload 6, 2) := by decide +kernel
theorem dX6_numberAmong_54 : decode cX6_numberAmong 54 = .ok (.ireturn, 1) := by decide +kernel
theorem dX6_numberAmong_55 : decode cX6_numberAmong 55 = .ok (.iinc 4 1, 3) := by decide +kernel
theorem dX6_numberAmong_58 : decode cX6_numberAmong 58 = .ok (.iinc 5 1, 3) := by decide +kernel
theorem dX6_numberAmong_61 : decode cX6_numberAmong 61 = .ok (.goto (-55), 3) := by decide +kernel
theorem dX6_numberAmong_64 : decode cX6_numberAmong 64 = .ok (.sipush (-1006), 3) := by decide +kernel
theorem dX6_numberAmong_67 : decode cX6_numberAmong 67 = .ok (.ireturn, 1) := by decide +kernel
theorem dX6_countOn_0 : decode cX6_countOn 0 = .ok (.iconst 0, 1) := by decide +kernel
theorem dX6_countOn_1 : decode cX6_countOn 1 = .ok (.istore_n 1, 1) := by decide +kernel
theorem dX6_countOn_2 : decode cX6_countOn 2 = .ok (.iconst 0, 1) := by decide +kernel
theorem dX6_countOn_3 : decode cX6_countOn 3 = .ok (.istore_n 2, 1) := by decide +kernel
theorem dX6_countOn_4 : decode cX6_countOn 4 = .ok (.iload_n 2, 1) := by decide +kernel
theorem dX6_countOn_5 : decode cX6_countOn 5 = .ok (.aload_n 0, 1) := by decide +kernel
theorem dX6_countOn_6 : decode cX6_countOn 6 = .ok (.getfield 22, 3) := by decide +kernel
theorem dX6_countOn_9 : decode cX6_countOn 9 = .ok (.if_icmp .ge 29, 3) := by decide +kernel
theorem dX6_countOn_12 : decode cX6_countOn 12 = .ok (.aload_n 0, 1) := by decide +kernel
theorem dX6_countOn_13 : decode cX6_countOn 13 = .ok (.iload_n 2, 1) := by decide +kernel
theorem dX6_countOn_14 : decode cX6_countOn 14 = .ok (.invokevirtual 30, 3) := by decide +kernel
theorem dX6_countOn_17 : decode cX6_countOn 17 = .ok (.astore_n 3, 1) := by decide +kernel
theorem dX6_countOn_18 : decode cX6_countOn 18 = .ok (.aload_n 3, 1) := by decide +kernel
theorem dX6_countOn_19 : decode cX6_countOn 19 = .ok (.ifnull 13, 3) := by decide +kernel
theorem dX6_countOn_22 : decode cX6_countOn 22 = .ok (.aload_n 3, 1) := by decide +kernel
theorem dX6_countOn_23 : decode cX6_countOn 23 = .ok (.getfield 38, 3) := by decide +kernel
theorem dX6_countOn_26 : decode cX6_countOn 26 = .ok (.ifCond .eq 6, 3) := by decide +kernel
theorem dX6_countOn_29 : decode cX6_countOn 29 = .ok (.iinc 1 1, 3) := by decide +kernel
theorem dX6_countOn_32 : decode cX6_countOn 32 = .ok (.iinc 2 1, 3) := by decide +kernel
theorem dX6_countOn_35 : decode cX6_countOn 35 = .ok (.goto (-31), 3) := by decide +kernel
theorem dX6_countOn_38 : decode cX6_countOn 38 = .ok (.iload_n 1, 1) := by decide +kernel
theorem dX6_countOn_39 : decode cX6_countOn 39 = .ok (.ireturn, 1) := by decide +kernel
theorem dX6_spare_0 : decode cX6_spare 0 = .ok (.aload_n 0, 1) := by decide +kernel
theorem dX6_spare_1 : decode cX6_spare 1 = .ok (.getfield 22, 3) := by decide +kernel
theorem dX6_spare_4 : decode cX6_spare 4 = .ok (.ifCond .lt 27, 3) := by decide +kernel
theorem dX6_spare_7 : decode cX6_spare 7 = .ok (.aload_n 0, 1) := by decide +kernel
theorem dX6_spare_8 : decode cX6_spare 8 = .ok (.getfield 22, 3) := by decide +kernel
theorem dX6_spare_11 : decode cX6_spare 11 = .ok (.aload_n 0, 1) := by decide +kernel
theorem dX6_spare_12 : decode cX6_spare 12 = .ok (.getfield 11, 3) := by decide +kernel
theorem dX6_spare_15 : decode cX6_spare 15 = .ok (.arraylength, 1) := by decide +kernel
theorem dX6_spare_16 : decode cX6_spare 16 = .ok (.if_icmp .ge 15, 3) := by decide +kernel
theorem dX6_spare_19 : decode cX6_spare 19 = .ok (.aload_n 0, 1) := by decide +kernel
theorem dX6_spare_20 : decode cX6_spare 20 = .ok (.getfield 11, 3) := by decide +kernel
theorem dX6_spare_23 : decode cX6_spare 23 = .ok (.aload_n 0, 1) := by decide +kernel
theorem dX6_spare_24 : decode cX6_spare 24 = .ok (.getfield 22, 3) := by decide +kernel
theorem dX6_spare_27 : decode cX6_spare 27 = .ok (.aaload, 1) := by decide +kernel
theorem dX6_spare_28 : decode cX6_spare 28 = .ok (.goto 4, 3) := by decide +kernel
theorem dX6_spare_31 : decode cX6_spare 31 = .ok (.aconst_null, 1) := by decide +kernel
theorem dX6_spare_32 : decode cX6_spare 32 = .ok (.areturn, 1) := by decide +kernel
theorem dX6_takeSpare_0 : decode cX6_takeSpare 0 = .ok (.aload_n 0, 1) := by decide +kernel
theorem dX6_takeSpare_1 : decode cX6_takeSpare 1 = .ok (.dup, 1) := by decide +kernel
theorem dX6_takeSpare_2 : decode cX6_takeSpare 2 = .ok (.getfield 22, 3) := by decide +kernel
theorem dX6_takeSpare_5 : decode cX6_takeSpare 5 = .ok (.iconst 1, 1) := by decide +kernel
theorem dX6_takeSpare_6 : decode cX6_takeSpare 6 = .ok (.iadd, 1) := by decide +kernel
theorem dX6_takeSpare_7 : decode cX6_takeSpare 7 = .ok (.putfield 22, 3) := by decide +kernel
theorem dX6_takeSpare_10 : decode cX6_takeSpare 10 = .ok (.aload_n 0, 1) := by decide +kernel
theorem dX6_takeSpare_11 : decode cX6_takeSpare 11 = .ok (.invokevirtual 42, 3) := by decide +kernel
theorem dX6_takeSpare_14 : decode cX6_takeSpare 14 = .ok (.aload_n 0, 1) := by decide +kernel
theorem dX6_takeSpare_15 : decode cX6_takeSpare 15 = .ok (.getfield 22, 3) := by decide +kernel
theorem dX6_takeSpare_18 : decode cX6_takeSpare 18 = .ok (.iconst 1, 1) := by decide +kernel
theorem dX6_takeSpare_19 : decode cX6_takeSpare 19 = .ok (.isub, 1) := by decide +kernel
theorem dX6_takeSpare_20 : decode cX6_takeSpare 20 = .ok (.ireturn, 1) := by decide +kernel
theorem dX6_drop_0 : decode cX6_drop 0 = .ok (.iload_n 1, 1) := by decide +kernel
theorem dX6_drop_1 : decode cX6_drop 1 = .ok (.ifCond .lt 20, 3) := by decide +kernel
theorem dX6_drop_4 : decode cX6_drop 4 = .ok (.iload_n 1, 1) := by decide +kernel
theorem dX6_drop_5 : decode cX6_drop 5 = .ok (.aload_n 0, 1) := by decide +kernel
theorem dX6_drop_6 : decode cX6_drop 6 = .ok (.getfield 22, 3) := by decide +kernel
theorem dX6_drop_9 : decode cX6_drop 9 = .ok (.if_icmp .ge 12, 3) := by decide +kernel
theorem dX6_drop_12 : decode cX6_drop 12 = .ok (.iload_n 1, 1) := by decide +kernel
theorem dX6_drop_13 : decode cX6_drop 13 = .ok (.aload_n 0, 1) := by decide +kernel
theorem dX6_drop_14 : decode cX6_drop 14 = .ok (.getfield 11, 3) := by decide +kernel
theorem dX6_drop_17 : decode cX6_drop 17 = .ok (.arraylength, 1) := by decide +kernel
theorem dX6_drop_18 : decode cX6_drop 18 = .ok (.if_icmp .lt 4, 3) := by decide +kernel
theorem dX6_drop_21 : decode cX6_drop 21 = .ok (.return_, 1) := by decide +kernel
theorem dX6_drop_22 : decode cX6_drop 22 = .ok (.aload_n 0, 1) := by decide +kernel
theorem dX6_drop_23 : decode cX6_drop 23 = .ok (.getfield 11, 3) := by decide +kernel
theorem dX6_drop_26 : decode cX6_drop 26 = .ok (.iload_n 1, 1) := by decide +kernel
theorem dX6_drop_27 : decode cX6_drop 27 = .ok (.aaload, 1) := by decide +kernel
theorem dX6_drop_28 : decode cX6_drop 28 = .ok (.astore_n 2, 1) := by decide +kernel
theorem dX6_drop_29 : decode cX6_drop 29 = .ok (.iload_n 1, 1) := by decide +kernel
theorem dX6_drop_30 : decode cX6_drop 30 = .ok (.istore_n 3, 1) := by decide +kernel
theorem dX6_drop_31 : decode cX6_drop 31 = .ok (.iload_n 3, 1) := by decide +kernel
theorem dX6_drop_32 : decode cX6_drop 32 = .ok (.iconst 1, 1) := by decide +kernel
theorem dX6_drop_33 : decode cX6_drop 33 = .ok (.iadd, 1) := by decide +kernel
theorem dX6_drop_34 : decode cX6_drop 34 = .ok (.aload_n 0, 1) := by decide +kernel
theorem dX6_drop_35 : decode cX6_drop 35 = .ok (.getfield 22, 3) := by decide +kernel
theorem dX6_drop_38 : decode cX6_drop 38 = .ok (.if_icmp .ge 34, 3) := by decide +kernel
theorem dX6_drop_41 : decode cX6_drop 41 = .ok (.iload_n 3, 1) := by decide +kernel
theorem dX6_drop_42 : decode cX6_drop 42 = .ok (.iconst 1, 1) := by decide +kernel
theorem dX6_drop_43 : decode cX6_drop 43 = .ok (.iadd, 1) := by decide +kernel
theorem dX6_drop_44 : decode cX6_drop 44 = .ok (.aload_n 0, 1) := by decide +kernel
theorem dX6_drop_45 : decode cX6_drop 45 = .ok (.getfield 11, 3) := by decide +kernel
theorem dX6_drop_48 : decode cX6_drop 48 = .ok (.arraylength, 1) := by decide +kernel
theorem dX6_drop_49 : decode cX6_drop 49 = .ok (.if_icmp .ge 23, 3) := by decide +kernel
theorem dX6_drop_52 : decode cX6_drop 52 = .ok (.aload_n 0, 1) := by decide +kernel
theorem dX6_drop_53 : decode cX6_drop 53 = .ok (.getfield 11, 3) := by decide +kernel
theorem dX6_drop_56 : decode cX6_drop 56 = .ok (.iload_n 3, 1) := by decide +kernel
theorem dX6_drop_57 : decode cX6_drop 57 = .ok (.aload_n 0, 1) := by decide +kernel
theorem dX6_drop_58 : decode cX6_drop 58 = .ok (.getfield 11, 3) := by decide +kernel
theorem dX6_drop_61 : decode cX6_drop 61 = .ok (.iload_n 3, 1) := by decide +kernel
theorem dX6_drop_62 : decode cX6_drop 62 = .ok (.iconst 1, 1) := by decide +kernel
theorem dX6_drop_63 : decode cX6_drop 63 = .ok (.iadd, 1) := by decide +kernel
theorem dX6_drop_64 : decode cX6_drop 64 = .ok (.aaload, 1) := by decide +kernel
theorem dX6_drop_65 : decode cX6_drop 65 = .ok (.aastore, 1) := by decide +kernel
theorem dX6_drop_66 : decode cX6_drop 66 = .ok (.iinc 3 1, 3) := by decide +kernel
theorem dX6_drop_69 : decode cX6_drop 69 = .ok (.goto (-38), 3) := by decide +kernel
theorem dX6_drop_72 : decode cX6_drop 72 = .ok (.aload_n 0, 1) := by decide +kernel
theorem dX6_drop_73 : decode cX6_drop 73 = .ok (.getfield 11, 3) := by decide +kernel
theorem dX6_drop_76 : decode cX6_drop 76 = .ok (.iload_n 3, 1) := by decide +kernel
theorem dX6_drop_77 : decode cX6_drop 77 = .ok (.aload_n 2, 1) := by decide +kernel
theorem dX6_drop_78 : decode cX6_drop 78 = .ok (.aastore, 1) := by decide +kernel
theorem dX6_drop_79 : decode cX6_drop 79 = .ok (.aload_n 0, 1) := by decide +kernel
theorem dX6_drop_80 : decode cX6_drop 80 = .ok (.dup, 1) := by decide +kernel
theorem dX6_drop_81 : decode cX6_drop 81 = .ok (.getfield 22, 3) := by decide +kernel
theorem dX6_drop_84 : decode cX6_drop 84 = .ok (.iconst 1, 1) := by decide +kernel
theorem dX6_drop_85 : decode cX6_drop 85 = .ok (.isub, 1) := by decide +kernel
theorem dX6_drop_86 : decode cX6_drop 86 = .ok (.putfield 22, 3) := by decide +kernel
theorem dX6_drop_89 : decode cX6_drop 89 = .ok (.aload_n 0, 1) := by decide +kernel
theorem dX6_drop_90 : decode cX6_drop 90 = .ok (.invokevirtual 42, 3) := by decide +kernel
theorem dX6_drop_93 : decode cX6_drop 93 = .ok (.return_, 1) := by decide +kernel
theorem dX6_sortByRank_0 : decode cX6_sortByRank 0 = .ok (.iconst 0, 1) := by decide +kernel
theorem dX6_sortByRank_1 : decode cX6_sortByRank 1 = .ok (.istore_n 1, 1) := by decide +kernel
theorem dX6_sortByRank_2 : decode cX6_sortByRank 2 = .ok (.iload_n 1, 1) := by decide +kernel
theorem dX6_sortByRank_3 : decode cX6_sortByRank 3 = .ok (.aload_n 0, 1) := by decide +kernel
theorem dX6_sortByRank_4 : decode cX6_sortByRank 4 = .ok (.getfield 22, 3) := by decide +kernel
theorem dX6_sortByRank_7 : decode cX6_sortByRank 7 = .ok (.if_icmp .ge 71, 3) := by decide +kernel
theorem dX6_sortByRank_10 : decode cX6_sortByRank 10 = .ok (.iload_n 1, 1) := by decide +kernel
theorem dX6_sortByRank_11 : decode cX6_sortByRank 11 = .ok (.aload_n 0, 1) := by decide +kernel
theorem dX6_sortByRank_12 : decode cX6_sortByRank 12 = .ok (.getfield 17, 3) := by decide +kernel
theorem dX6_sortByRank_15 : decode cX6_sortByRank 15 = .ok (.arraylength, 1) := by decide +kernel
theorem dX6_sortByRank_16 : decode cX6_sortByRank 16 = .ok (.if_icmp .ge 62, 3) := by decide +kernel
theorem dX6_sortByRank_19 : decode cX6_sortByRank 19 = .ok (.iload_n 1, 1) := by decide +kernel
theorem dX6_sortByRank_20 : decode cX6_sortByRank 20 = .ok (.istore_n 2, 1) := by decide +kernel
theorem dX6_sortByRank_21 : decode cX6_sortByRank 21 = .ok (.iload_n 2, 1) := by decide +kernel
theorem dX6_sortByRank_22 : decode cX6_sortByRank 22 = .ok (.ifCond .le 43, 3) := by decide +kernel
theorem dX6_sortByRank_25 : decode cX6_sortByRank 25 = .ok (.aload_n 0, 1) := by decide +kernel
theorem dX6_sortByRank_26 : decode cX6_sortByRank 26 = .ok (.aload_n 0, 1) := by decide +kernel
theorem dX6_sortByRank_27 : decode cX6_sortByRank 27 = .ok (.getfield 17, 3) := by decide +kernel
theorem dX6_sortByRank_30 : decode cX6_sortByRank 30 = .ok (.iload_n 2, 1) := by decide +kernel
theorem dX6_sortByRank_31 : decode cX6_sortByRank 31 = .ok (.iconst 1, 1) := by decide +kernel
theorem dX6_sortByRank_32 : decode cX6_sortByRank 32 = .ok (.isub, 1) := by decide +kernel
theorem dX6_sortByRank_33 : decode cX6_sortByRank 33 = .ok (.iaload, 1) := by decide +kernel
theorem dX6_sortByRank_34 : decode cX6_sortByRank 34 = .ok (.invokevirtual 45, 3) := by decide +kernel
theorem dX6_sortByRank_37 : decode cX6_sortByRank 37 = .ok (.aload_n 0, 1) := by decide +kernel
theorem dX6_sortByRank_38 : decode cX6_sortByRank 38 = .ok (.iload_n 1, 1) := by decide +kernel
theorem dX6_sortByRank_39 : decode cX6_sortByRank 39 = .ok (.invokevirtual 45, 3) := by decide +kernel
theorem dX6_sortByRank_42 : decode cX6_sortByRank 42 = .ok (.if_icmp .le 23, 3) := by decide +kernel
theorem dX6_sortByRank_45 : decode cX6_sortByRank 45 = .ok (.aload_n 0, 1) := by decide +kernel
theorem dX6_sortByRank_46 : decode cX6_sortByRank 46 = .ok (.getfield 17, 3) := by decide +kernel
theorem dX6_sortByRank_49 : decode cX6_sortByRank 49 = .ok (.iload_n 2, 1) := by decide +kernel
theorem dX6_sortByRank_50 : decode cX6_sortByRank 50 = .ok (.aload_n 0, 1) := by decide +kernel
theorem dX6_sortByRank_51 : decode cX6_sortByRank 51 = .ok (.getfield 17, 3) := by decide +kernel
theorem dX6_sortByRank_54 : decode cX6_sortByRank 54 = .ok (.iload_n 2, 1) := by decide +kernel
theorem dX6_sortByRank_55 : decode cX6_sortByRank 55 = .ok (.iconst 1, 1) := by decide +kernel
theorem dX6_sortByRank_56 : decode cX6_sortByRank 56 = .ok (.isub, 1) := by decide +kernel
theorem dX6_sortByRank_57 : decode cX6_sortByRank 57 = .ok (.iaload, 1) := by decide +kernel
theorem dX6_sortByRank_58 : decode cX6_sortByRank 58 = .ok (.iastore, 1) := by decide +kernel
theorem dX6_sortByRank_59 : decode cX6_sortByRank 59 = .ok (.iinc 2 (-1), 3) := by decide +kernel
theorem dX6_sortByRank_62 : decode cX6_sortByRank 62 = .ok (.goto (-41), 3) := by decide +kernel
theorem dX6_sortByRank_65 : decode cX6_sortByRank 65 = .ok (.aload_n 0, 1) := by decide +kernel
theorem dX6_sortByRank_66 : decode cX6_sortByRank 66 = .ok (.getfield 17, 3) := by decide +kernel
theorem dX6_sortByRank_69 : decode cX6_sortByRank 69 = .ok (.iload_n 2, 1) := by decide +kernel
theorem dX6_sortByRank_70 : decode cX6_sortByRank 70 = .ok (.iload_n 1, 1) := by decide +kernel
theorem dX6_sortByRank_71 : decode cX6_sortByRank 71 = .ok (.iastore, 1) := by decide +kernel
theorem dX6_sortByRank_72 : decode cX6_sortByRank 72 = .ok (.iinc 1 1, 3) := by decide +kernel
theorem dX6_sortByRank_75 : decode cX6_sortByRank 75 = .ok (.goto (-73), 3) := by decide +kernel
theorem dX6_sortByRank_78 : decode cX6_sortByRank 78 = .ok (.return_, 1) := by decide +kernel
theorem dX6_rankOf_0 : decode cX6_rankOf 0 = .ok (.aload_n 0, 1) := by decide +kernel
theorem dX6_rankOf_1 : decode cX6_rankOf 1 = .ok (.iload_n 1, 1) := by decide +kernel
theorem dX6_rankOf_2 : decode cX6_rankOf 2 = .ok (.invokevirtual 30, 3) := by decide +kernel
theorem dX6_rankOf_5 : decode cX6_rankOf 5 = .ok (.astore_n 2, 1) := by decide +kernel
theorem dX6_rankOf_6 : decode cX6_rankOf 6 = .ok (.aload_n 2, 1) := by decide +kernel
theorem dX6_rankOf_7 : decode cX6_rankOf 7 = .ok (.ifnonnull 9, 3) := by decide +kernel
theorem dX6_rankOf_10 : decode cX6_rankOf 10 = .ok (.sipush (-1006), 3) := by decide +kernel
theorem dX6_rankOf_13 : decode cX6_rankOf 13 = .ok (.goto 7, 3) := by decide +kernel
theorem dX6_rankOf_16 : decode cX6_rankOf 16 = .ok (.aload_n 2, 1) := by decide +kernel
theorem dX6_rankOf_17 : decode cX6_rankOf 17 = .ok (.getfield 48, 3) := by decide +kernel
theorem dX6_rankOf_20 : decode cX6_rankOf 20 = .ok (.ireturn, 1) := by decide +kernel
theorem dX6_copyFrom_0 : decode cX6_copyFrom 0 = .ok (.aload_n 0, 1) := by decide +kernel
theorem dX6_copyFrom_1 : decode cX6_copyFrom 1 = .ok (.aload_n 1, 1) := by decide +kernel
theorem dX6_copyFrom_2 : decode cX6_copyFrom 2 = .ok (.getfield 22, 3) := by decide +kernel
theorem dX6_copyFrom_5 : decode cX6_copyFrom 5 = .ok (.putfield 22, 3) := by decide +kernel
theorem dX6_copyFrom_8 : decode cX6_copyFrom 8 = .ok (.iconst 0, 1) := by decide +kernel
theorem dX6_copyFrom_9 : decode cX6_copyFrom 9 = .ok (.istore_n 2, 1) := by decide +kernel
theorem dX6_copyFrom_10 : decode cX6_copyFrom 10 = .ok (.iload_n 2, 1) := by decide +kernel
theorem dX6_copyFrom_11 : decode cX6_copyFrom 11 = .ok (.aload_n 0, 1) := by decide +kernel
theorem dX6_copyFrom_12 : decode cX6_copyFrom 12 = .ok (.getfield 22, 3) := by decide +kernel
theorem dX6_copyFrom_15 : decode cX6_copyFrom 15 = .ok (.if_icmp .ge 47, 3) := by decide +kernel
theorem dX6_copyFrom_18 : decode cX6_copyFrom 18 = .ok (.iload_n 2, 1) := by decide +kernel
theorem dX6_copyFrom_19 : decode cX6_copyFrom 19 = .ok (.aload_n 0, 1) := by decide +kernel
theorem dX6_copyFrom_20 : decode cX6_copyFrom 20 = .ok (.getfield 11, 3) := by decide +kernel
theorem dX6_copyFrom_23 : decode cX6_copyFrom 23 = .ok (.arraylength, 1) := by decide +kernel
theorem dX6_copyFrom_24 : decode cX6_copyFrom 24 = .ok (.if_icmp .ge 38, 3) := by decide +kernel
theorem dX6_copyFrom_27 : decode cX6_copyFrom 27 = .ok (.aload_n 0, 1) := by decide +kernel
theorem dX6_copyFrom_28 : decode cX6_copyFrom 28 = .ok (.getfield 11, 3) := by decide +kernel
theorem dX6_copyFrom_31 : decode cX6_copyFrom 31 = .ok (.iload_n 2, 1) := by decide +kernel
theorem dX6_copyFrom_32 : decode cX6_copyFrom 32 = .ok (.aaload, 1) := by decide +kernel
theorem dX6_copyFrom_33 : decode cX6_copyFrom 33 = .ok (.astore_n 3, 1) := by decide +kernel
theorem dX6_copyFrom_34 : decode cX6_copyFrom 34 = .ok (.aload_n 1, 1) := by decide +kernel
theorem dX6_copyFrom_35 : decode cX6_copyFrom 35 = .ok (.iload_n 2, 1) := by decide +kernel
theorem dX6_copyFrom_36 : decode cX6_copyFrom 36 = .ok (.invokevirtual 30, 3) := by decide +kernel
theorem dX6_copyFrom_39 : decode cX6_copyFrom 39 = .ok (.astore 4, 2) := by decide +kernel
theorem dX6_copyFrom_41 : decode cX6_copyFrom 41 = .ok (.aload_n 3, 1) := by decide +kernel
theorem dX6_copyFrom_42 : decode cX6_copyFrom 42 = .ok (.ifnull 14, 3) := by decide +kernel
theorem dX6_copyFrom_45 : decode cX6_copyFrom 45 = .ok (.aload 4, 2) := by decide +kernel
theorem dX6_copyFrom_47 : decode cX6_copyFrom 47 = .ok (.ifnull 9, 3) := by decide +kernel
theorem dX6_copyFrom_50 : decode cX6_copyFrom 50 = .ok (.aload_n 3, 1) := by decide +kernel
theorem dX6_copyFrom_51 : decode cX6_copyFrom 51 = .ok (.aload 4, 2) := by decide +kernel
theorem dX6_copyFrom_53 : decode cX6_copyFrom 53 = .ok (.invokevirtual 51, 3) := by decide +kernel
theorem dX6_copyFrom_56 : decode cX6_copyFrom 56 = .ok (.iinc 2 1, 3) := by decide +kernel
theorem dX6_copyFrom_59 : decode cX6_copyFrom 59 = .ok (.goto (-49), 3) := by decide +kernel
theorem dX6_copyFrom_62 : decode cX6_copyFrom 62 = .ok (.aload_n 1, 1) := by decide +kernel
theorem dX6_copyFrom_63 : decode cX6_copyFrom 63 = .ok (.getfield 17, 3) := by decide +kernel
theorem dX6_copyFrom_66 : decode cX6_copyFrom 66 = .ok (.iconst 0, 1) := by decide +kernel
theorem dX6_copyFrom_67 : decode cX6_copyFrom 67 = .ok (.aload_n 0, 1) := by decide +kernel
theorem dX6_copyFrom_68 : decode cX6_copyFrom 68 = .ok (.getfield 17, 3) := by decide +kernel
theorem dX6_copyFrom_71 : decode cX6_copyFrom 71 = .ok (.iconst 0, 1) := by decide +kernel
theorem dX6_copyFrom_72 : decode cX6_copyFrom 72 = .ok (.bipush 12, 2) := by decide +kernel
theorem dX6_copyFrom_74 : decode cX6_copyFrom 74 = .ok (.invokestatic 55, 3) := by decide +kernel
theorem dX6_copyFrom_77 : decode cX6_copyFrom 77 = .ok (.return_, 1) := by decide +kernel
theorem dX7_init_0 : decode cX7_init 0 = .ok (.aload_n 0, 1) := by decide +kernel
theorem dX7_init_1 : decode cX7_init 1 = .ok (.invokespecial 3, 3) := by decide +kernel
theorem dX7_init_4 : decode cX7_init 4 = .ok (.aload_n 0, 1) := by decide +kernel
theorem dX7_init_5 : decode cX7_init 5 = .ok (.new 9, 3) := by decide +kernel
theorem dX7_init_8 : decode cX7_init 8 = .ok (.dup, 1) := by decide +kernel
theorem dX7_init_9 : decode cX7_init 9 = .ok (.invokespecial 11, 3) := by decide +kernel
theorem dX7_init_12 : decode cX7_init 12 = .ok (.putfield 12, 3) := by decide +kernel
theorem dX7_init_15 : decode cX7_init 15 = .ok (.aload_n 0, 1) := by decide +kernel
theorem dX7_init_16 : decode cX7_init 16 = .ok (.new 18, 3) := by decide +kernel
theorem dX7_init_19 : decode cX7_init 19 = .ok (.dup, 1) := by decide +kernel
theorem dX7_init_20 : decode cX7_init 20 = .ok (.invokespecial 20, 3) := by decide +kernel
theorem dX7_init_23 : decode cX7_init 23 = .ok (.putfield 21, 3) := by decide +kernel
theorem dX7_init_26 : decode cX7_init 26 = .ok (.aload_n 0, 1) := by decide +kernel
theorem dX7_init_27 : decode cX7_init 27 = .ok (.new 25, 3) := by decide +kernel
theorem dX7_init_30 : decode cX7_init 30 = .ok (.dup, 1) := by decide +kernel
theorem dX7_init_31 : decode cX7_init 31 = .ok (.invokespecial 27, 3) := by decide +kernel
theorem dX7_init_34 : decode cX7_init 34 = .ok (.putfield 28, 3) := by decide +kernel
theorem dX7_init_37 : decode cX7_init 37 = .ok (.aload_n 0, 1) := by decide +kernel
theorem dX7_init_38 : decode cX7_init 38 = .ok (.iconst 4, 1) := by decide +kernel
theorem dX7_init_39 : decode cX7_init 39 = .ok (.putfield 32, 3) := by decide +kernel
theorem dX7_init_42 : decode cX7_init 42 = .ok (.return_, 1) := by decide +kernel
theorem dX7_copyFrom_0 : decode cX7_copyFrom 0 = .ok (.aload_n 0, 1) := by decide +kernel
theorem dX7_copyFrom_1 : decode cX7_copyFrom 1 = .ok (.getfield 12, 3) := by decide +kernel
theorem dX7_copyFrom_4 : decode cX7_copyFrom 4 = .ok (.aload_n 1, 1) := by decide +kernel
theorem dX7_copyFrom_5 : decode cX7_copyFrom 5 = .ok (.getfield 12, 3) := by decide +kernel
theorem dX7_copyFrom_8 : decode cX7_copyFrom 8 = .ok (.invokevirtual 36, 3) := by decide +kernel
theorem dX7_copyFrom_11 : decode cX7_copyFrom 11 = .ok (.aload_n 0, 1) := by decide +kernel
theorem dX7_copyFrom_12 : decode cX7_copyFrom 12 = .ok (.getfield 21, 3) := by decide +kernel
theorem dX7_copyFrom_15 : decode cX7_copyFrom 15 = .ok (.aload_n 1, 1) := by decide +kernel
theorem dX7_copyFrom_16 : decode cX7_copyFrom 16 = .ok (.getfield 21, 3) := by decide +kernel
theorem dX7_copyFrom_19 : decode cX7_copyFrom 19 = .ok (.invokevirtual 40, 3) := by decide +kernel
theorem dX7_copyFrom_22 : decode cX7_copyFrom 22 = .ok (.aload_n 0, 1) := by decide +kernel
theorem dX7_copyFrom_23 : decode cX7_copyFrom 23 = .ok (.getfield 28, 3) := by decide +kernel
theorem dX7_copyFrom_26 : decode cX7_copyFrom 26 = .ok (.aload_n 1, 1) := by decide +kernel
theorem dX7_copyFrom_27 : decode cX7_copyFrom 27 = .ok (.getfield 28, 3) := by decide +kernel
theorem dX7_copyFrom_30 : decode cX7_copyFrom 30 = .ok (.invokevirtual 43, 3) := by decide +kernel
theorem dX7_copyFrom_33 : decode cX7_copyFrom 33 = .ok (.aload_n 0, 1) := by decide +kernel
theorem dX7_copyFrom_34 : decode cX7_copyFrom 34 = .ok (.aload_n 1, 1) := by decide +kernel
theorem dX7_copyFrom_35 : decode cX7_copyFrom 35 = .ok (.getfield 32, 3) := by decide +kernel
theorem dX7_copyFrom_38 : decode cX7_copyFrom 38 = .ok (.putfield 32, 3) := by decide +kernel
theorem dX7_copyFrom_41 : decode cX7_copyFrom 41 = .ok (.aload_n 0, 1) := by decide +kernel
theorem dX7_copyFrom_42 : decode cX7_copyFrom 42 = .ok (.aload_n 1, 1) := by decide +kernel
theorem dX7_copyFrom_43 : decode cX7_copyFrom 43 = .ok (.getfield 46, 3) := by decide +kernel
theorem dX7_copyFrom_46 : decode cX7_copyFrom 46 = .ok (.putfield 46, 3) := by decide +kernel
theorem dX7_copyFrom_49 : decode cX7_copyFrom 49 = .ok (.aload_n 0, 1) := by decide +kernel
theorem dX7_copyFrom_50 : decode cX7_copyFrom 50 = .ok (.aload_n 1, 1) := by decide +kernel
theorem dX7_copyFrom_51 : decode cX7_copyFrom 51 = .ok (.getfield 49, 3) := by decide +kernel
theorem dX7_copyFrom_54 : decode cX7_copyFrom 54 = .ok (.putfield 49, 3) := by decide +kernel
theorem dX7_copyFrom_57 : decode cX7_copyFrom 57 = .ok (.aload_n 0, 1) := by decide +kernel
theorem dX7_copyFrom_58 : decode cX7_copyFrom 58 = .ok (.aload_n 1, 1) := by decide +kernel
theorem dX7_copyFrom_59 : decode cX7_copyFrom 59 = .ok (.getfield 52, 3) := by decide +kernel
theorem dX7_copyFrom_62 : decode cX7_copyFrom 62 = .ok (.putfield 52, 3) := by decide +kernel
theorem dX7_copyFrom_65 : decode cX7_copyFrom 65 = .ok (.aload_n 0, 1) := by decide +kernel
theorem dX7_copyFrom_66 : decode cX7_copyFrom 66 = .ok (.aload_n 1, 1) := by decide +kernel
theorem dX7_copyFrom_67 : decode cX7_copyFrom 67 = .ok (.getfield 55, 3) := by decide +kernel
theorem dX7_copyFrom_70 : decode cX7_copyFrom 70 = .ok (.putfield 55, 3) := by decide +kernel
theorem dX7_copyFrom_73 : decode cX7_copyFrom 73 = .ok (.aload_n 0, 1) := by decide +kernel
theorem dX7_copyFrom_74 : decode cX7_copyFrom 74 = .ok (.aload_n 1, 1) := by decide +kernel
theorem dX7_copyFrom_75 : decode cX7_copyFrom 75 = .ok (.getfield 58, 3) := by decide +kernel
theorem dX7_copyFrom_78 : decode cX7_copyFrom 78 = .ok (.putfield 58, 3) := by decide +kernel
theorem dX7_copyFrom_81 : decode cX7_copyFrom 81 = .ok (.return_, 1) := by decide +kernel
theorem dX7_tell_0 : decode cX7_tell 0 = .ok (.iload_n 1, 1) := by decide +kernel
theorem dX7_tell_1 : decode cX7_tell 1 = .ok (.tableswitch 117 0 9 #[55, 63, 71, 79, 84, 89, 94, 99, 104, 109], 55) := by decide +kernel
theorem dX7_tell_56 : decode cX7_tell 56 = .ok (.aload_n 0, 1) := by decide +kernel
theorem dX7_tell_57 : decode cX7_tell 57 = .ok (.getfield 12, 3) := by decide +kernel
theorem dX7_tell_60 : decode cX7_tell 60 = .ok (.getfield 61, 3) := by decide +kernel
theorem dX7_tell_63 : decode cX7_tell 63 = .ok (.ireturn, 1) := by decide +kernel
theorem dX7_tell_64 : decode cX7_tell 64 = .ok (.aload_n 0, 1) := by decide +kernel
theorem dX7_tell_65 : decode cX7_tell 65 = .ok (.getfield 21, 3) := by decide +kernel
theorem dX7_tell_68 : decode cX7_tell 68 = .ok (.getfield 64, 3) := by decide +kernel
theorem dX7_tell_71 : decode cX7_tell 71 = .ok (.ireturn, 1) := by decide +kernel
theorem dX7_tell_72 : decode cX7_tell 72 = .ok (.aload_n 0, 1) := by decide +kernel
theorem dX7_tell_73 : decode cX7_tell 73 = .ok (.getfield 21, 3) := by decide +kernel
theorem dX7_tell_76 : decode cX7_tell 76 = .ok (.invokevirtual 65, 3) := by decide +kernel
theorem dX7_tell_79 : decode cX7_tell 79 = .ok (.ireturn, 1) := by decide +kernel
theorem dX7_tell_80 : decode cX7_tell 80 = .ok (.aload_n 0, 1) := by decide +kernel
theorem dX7_tell_81 : decode cX7_tell 81 = .ok (.getfield 32, 3) := by decide +kernel
theorem dX7_tell_84 : decode cX7_tell 84 = .ok (.ireturn, 1) := by decide +kernel
theorem dX7_tell_85 : decode cX7_tell 85 = .ok (.aload_n 0, 1) := by decide +kernel
theorem dX7_tell_86 : decode cX7_tell 86 = .ok (.getfield 46, 3) := by decide +kernel
theorem dX7_tell_89 : decode cX7_tell 89 = .ok (.ireturn, 1) := by decide +kernel
theorem dX7_tell_90 : decode cX7_tell 90 = .ok (.aload_n 0, 1) := by decide +kernel
theorem dX7_tell_91 : decode cX7_tell 91 = .ok (.getfield 49, 3) := by decide +kernel
theorem dX7_tell_94 : decode cX7_tell 94 = .ok (.ireturn, 1) := by decide +kernel
theorem dX7_tell_95 : decode cX7_tell 95 = .ok (.aload_n 0, 1) := by decide +kernel
theorem dX7_tell_96 : decode cX7_tell 96 = .ok (.getfield 52, 3) := by decide +kernel
theorem dX7_tell_99 : decode cX7_tell 99 = .ok (.ireturn, 1) := by decide +kernel
theorem dX7_tell_100 : decode cX7_tell 100 = .ok (.aload_n 0, 1) := by decide +kernel
theorem dX7_tell_101 : decode cX7_tell 101 = .ok (.getfield 55, 3) := by decide +kernel
theorem dX7_tell_104 : decode cX7_tell 104 = .ok (.ireturn, 1) := by decide +kernel
theorem dX7_tell_105 : decode cX7_tell 105 = .ok (.aload_n 0, 1) := by decide +kernel
theorem dX7_tell_106 : decode cX7_tell 106 = .ok (.getfield 58, 3) := by decide +kernel
theorem dX7_tell_109 : decode cX7_tell 109 = .ok (.ireturn, 1) := by decide +kernel
theorem dX7_tell_110 : decode cX7_tell 110 = .ok (.aload_n 0, 1) := by decide +kernel
theorem dX7_tell_111 : decode cX7_tell 111 = .ok (.getfield 28, 3) := by decide +kernel
theorem dX7_tell_114 : decode cX7_tell 114 = .ok (.getfield 69, 3) := by decide +kernel
theorem dX7_tell_117 : decode cX7_tell 117 = .ok (.ireturn, 1) := by decide +kernel
theorem dX7_tell_118 : decode cX7_tell 118 = .ok (.sipush (-1002), 3) := by decide +kernel
theorem dX7_tell_121 : decode cX7_tell 121 = .ok (.ireturn, 1) := by decide +kernel
theorem dX8_init_0 : decode cX8_init 0 = .ok (.aload_n 0, 1) := by decide +kernel
theorem dX8_init_1 : decode cX8_init 1 = .ok (.invokespecial 3, 3) := by decide +kernel
theorem dX8_init_4 : decode cX8_init 4 = .ok (.aload_n 0, 1) := by decide +kernel
theorem dX8_init_5 : decode cX8_init 5 = .ok (.bipush 20, 2) := by decide +kernel
theorem dX8_init_7 : decode cX8_init 7 = .ok (.anewarray 9, 3) := by decide +kernel
theorem dX8_init_10 : decode cX8_init 10 = .ok (.putfield 11, 3) := by decide +kernel
theorem dX8_init_13 : decode cX8_init 13 = .ok (.iconst 0, 1) := by decide +kernel
theorem dX8_init_14 : decode cX8_init 14 = .ok (.istore_n 1, 1) := by decide +kernel
theorem dX8_init_15 : decode cX8_init 15 = .ok (.iload_n 1, 1) := by decide +kernel
theorem dX8_init_16 : decode cX8_init 16 = .ok (.aload_n 0, 1) := by decide +kernel
theorem dX8_init_17 : decode cX8_init 17 = .ok (.getfield 11, 3) := by decide +kernel
theorem dX8_init_20 : decode cX8_init 20 = .ok (.arraylength, 1) := by decide +kernel
theorem dX8_init_21 : decode cX8_init 21 = .ok (.if_icmp .ge 22, 3) := by decide +kernel
theorem dX8_init_24 : decode cX8_init 24 = .ok (.aload_n 0, 1) := by decide +kernel
theorem dX8_init_25 : decode cX8_init 25 = .ok (.getfield 11, 3) := by decide +kernel
theorem dX8_init_28 : decode cX8_init 28 = .ok (.iload_n 1, 1) := by decide +kernel
theorem dX8_init_29 : decode cX8_init 29 = .ok (.new 9, 3) := by decide +kernel
theorem dX8_init_32 : decode cX8_init 32 = .ok (.dup, 1) := by decide +kernel
theorem dX8_init_33 : decode cX8_init 33 = .ok (.invokespecial 17, 3) := by decide +kernel
theorem dX8_init_36 : decode cX8_init 36 = .ok (.aastore, 1) := by decide +kernel
theorem dX8_init_37 : decode cX8_init 37 = .ok (.iinc 1 1, 3) := by decide +kernel
theorem dX8_init_40 : decode cX8_init 40 = .ok (.goto (-25), 3) := by decide +kernel
theorem dX8_init_43 : decode cX8_init 43 = .ok (.return_, 1) := by decide +kernel
theorem dX8_isFull_0 : decode cX8_isFull 0 = .ok (.aload_n 0, 1) := by decide +kernel
theorem dX8_isFull_1 : decode cX8_isFull 1 = .ok (.getfield 18, 3) := by decide +kernel
theorem dX8_isFull_4 : decode cX8_isFull 4 = .ok (.aload_n 0, 1) := by decide +kernel
theorem dX8_isFull_5 : decode cX8_isFull 5 = .ok (.getfield 11, 3) := by decide +kernel
theorem dX8_isFull_8 : decode cX8_isFull 8 = .ok (.arraylength, 1) := by decide +kernel
theorem dX8_isFull_9 : decode cX8_isFull 9 = .ok (.if_icmp .lt 7, 3) := by decide +kernel
theorem dX8_isFull_12 : decode cX8_isFull 12 = .ok (.iconst 1, 1) := by decide +kernel
theorem dX8_isFull_13 : decode cX8_isFull 13 = .ok (.goto 4, 3) := by decide +kernel
theorem dX8_isFull_16 : decode cX8_isFull 16 = .ok (.iconst 0, 1) := by decide +kernel
theorem dX8_isFull_17 : decode cX8_isFull 17 = .ok (.ireturn, 1) := by decide +kernel
theorem dX8_rowAt_0 : decode cX8_rowAt 0 = .ok (.iload_n 1, 1) := by decide +kernel
theorem dX8_rowAt_1 : decode cX8_rowAt 1 = .ok (.ifCond .lt 29, 3) := by decide +kernel
theorem dX8_rowAt_4 : decode cX8_rowAt 4 = .ok (.iload_n 1, 1) := by decide +kernel
theorem dX8_rowAt_5 : decode cX8_rowAt 5 = .ok (.aload_n 0, 1) := by decide +kernel
theorem dX8_rowAt_6 : decode cX8_rowAt 6 = .ok (.getfield 18, 3) := by decide +kernel
theorem dX8_rowAt_9 : decode cX8_rowAt 9 = .ok (.if_icmp .ge 21, 3) := by decide +kernel
theorem dX8_rowAt_12 : decode cX8_rowAt 12 = .ok (.iload_n 1, 1) := by decide +kernel
theorem dX8_rowAt_13 : decode cX8_rowAt 13 = .ok (.aload_n 0, 1) := by decide +kernel
theorem dX8_rowAt_14 : decode cX8_rowAt 14 = .ok (.getfield 11, 3) := by decide +kernel
theorem dX8_rowAt_17 : decode cX8_rowAt 17 = .ok (.arraylength, 1) := by decide +kernel
theorem dX8_rowAt_18 : decode cX8_rowAt 18 = .ok (.if_icmp .ge 12, 3) := by decide +kernel
theorem dX8_rowAt_21 : decode cX8_rowAt 21 = .ok (.aload_n 0, 1) := by decide +kernel
theorem dX8_rowAt_22 : decode cX8_rowAt 22 = .ok (.getfield 11, 3) := by decide +kernel
theorem dX8_rowAt_25 : decode cX8_rowAt 25 = .ok (.iload_n 1, 1) := by decide +kernel
theorem dX8_rowAt_26 : decode cX8_rowAt 26 = .ok (.aaload, 1) := by decide +kernel
theorem dX8_rowAt_27 : decode cX8_rowAt 27 = .ok (.goto 4, 3) := by decide +kernel
theorem dX8_rowAt_30 : decode cX8_rowAt 30 = .ok (.aconst_null, 1) := by decide +kernel
theorem dX8_rowAt_31 : decode cX8_rowAt 31 = .ok (.areturn, 1) := by decide +kernel
theorem dX8_rowOf_0 : decode cX8_rowOf 0 = .ok (.iconst 0, 1) := by decide +kernel
theorem dX8_rowOf_1 : decode cX8_rowOf 1 = .ok (.istore_n 2, 1) := by decide +kernel
theorem dX8_rowOf_2 : decode cX8_rowOf 2 = .ok (.iload_n 2, 1) := by decide +kernel
theorem dX8_rowOf_3 : decode cX8_rowOf 3 = .ok (.aload_n 0, 1) := by decide +kernel
theorem dX8_rowOf_4 : decode cX8_rowOf 4 = .ok (.getfield 18, 3) := by decide +kernel
theorem dX8_rowOf_7 : decode cX8_rowOf 7 = .ok (.if_icmp .ge 39, 3) := by decide +kernel
theorem dX8_rowOf_10 : decode cX8_rowOf 10 = .ok (.iload_n 2, 1) := by decide +kernel
theorem dX8_rowOf_11 : decode cX8_rowOf 11 = .ok (.aload_n 0, 1) := by decide +kernel
theorem dX8_rowOf_12 : decode cX8_rowOf 12 = .ok (.getfield 11, 3) := by decide +kernel
theorem dX8_rowOf_15 : decode cX8_rowOf 15 = .ok (.arraylength, 1) := by decide +kernel
theorem dX8_rowOf_16 : decode cX8_rowOf 16 = .ok (.if_icmp .ge 30, 3) := by decide +kernel
theorem dX8_rowOf_19 : decode cX8_rowOf 19 = .ok (.aload_n 0, 1) := by decide +kernel
theorem dX8_rowOf_20 : decode cX8_rowOf 20 = .ok (.getfield 11, 3) := by decide +kernel
theorem dX8_rowOf_23 : decode cX8_rowOf 23 = .ok (.iload_n 2, 1) := by decide +kernel
theorem dX8_rowOf_24 : decode cX8_rowOf 24 = .ok (.aaload, 1) := by decide +kernel
theorem dX8_rowOf_25 : decode cX8_rowOf 25 = .ok (.astore_n 3, 1) := by decide +kernel
theorem dX8_rowOf_26 : decode cX8_rowOf 26 = .ok (.aload_n 3, 1) := by decide +kernel
