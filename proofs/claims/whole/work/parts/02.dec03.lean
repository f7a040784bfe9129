theorem dX11_behind_0 : decode cX11_behind 0 = .ok (.iload_n 1, 1) := by decide +kernel
theorem dX11_behind_1 : decode cX11_behind 1 = .ok (.ifCond .ge 7, 3) := by decide +kernel
theorem dX11_behind_4 : decode cX11_behind 4 = .ok (.iload_n 1, 1) := by decide +kernel
theorem dX11_behind_5 : decode cX11_behind 5 = .ok (.goto 21, 3) := by decide +kernel
theorem dX11_behind_8 : decode cX11_behind 8 = .ok (.aload_n 0, 1) := by decide +kernel
theorem dX11_behind_9 : decode cX11_behind 9 = .ok (.iload_n 1, 1) := by decide +kernel
theorem dX11_behind_10 : decode cX11_behind 10 = .ok (.invokevirtual 164, 3) := by decide +kernel
theorem dX11_behind_13 : decode cX11_behind 13 = .ok (.iload_n 2, 1) := by decide +kernel
theorem dX11_behind_14 : decode cX11_behind 14 = .ok (.if_icmp .ne 9, 3) := by decide +kernel
theorem dX11_behind_17 : decode cX11_behind 17 = .ok (.iload_n 1, 1) := by decide +kernel
theorem dX11_behind_18 : decode cX11_behind 18 = .ok (.iconst 1, 1) := by decide +kernel
theorem dX11_behind_19 : decode cX11_behind 19 = .ok (.iadd, 1) := by decide +kernel
theorem dX11_behind_20 : decode cX11_behind 20 = .ok (.goto 6, 3) := by decide +kernel
theorem dX11_behind_23 : decode cX11_behind 23 = .ok (.iconst (-1), 1) := by decide +kernel
theorem dX11_behind_24 : decode cX11_behind 24 = .ok (.iload_n 1, 1) := by decide +kernel
theorem dX11_behind_25 : decode cX11_behind 25 = .ok (.isub, 1) := by decide +kernel
theorem dX11_behind_26 : decode cX11_behind 26 = .ok (.ireturn, 1) := by decide +kernel
theorem dX11_valueBehind_0 : decode cX11_valueBehind 0 = .ok (.aload_n 0, 1) := by decide +kernel
theorem dX11_valueBehind_1 : decode cX11_valueBehind 1 = .ok (.iload_n 1, 1) := by decide +kernel
theorem dX11_valueBehind_2 : decode cX11_valueBehind 2 = .ok (.iload_n 2, 1) := by decide +kernel
theorem dX11_valueBehind_3 : decode cX11_valueBehind 3 = .ok (.invokevirtual 174, 3) := by decide +kernel
theorem dX11_valueBehind_6 : decode cX11_valueBehind 6 = .ok (.istore_n 3, 1) := by decide +kernel
theorem dX11_valueBehind_7 : decode cX11_valueBehind 7 = .ok (.iload_n 3, 1) := by decide +kernel
theorem dX11_valueBehind_8 : decode cX11_valueBehind 8 = .ok (.ifCond .ge 7, 3) := by decide +kernel
theorem dX11_valueBehind_11 : decode cX11_valueBehind 11 = .ok (.iload_n 3, 1) := by decide +kernel
theorem dX11_valueBehind_12 : decode cX11_valueBehind 12 = .ok (.goto 8, 3) := by decide +kernel
theorem dX11_valueBehind_15 : decode cX11_valueBehind 15 = .ok (.aload_n 0, 1) := by decide +kernel
theorem dX11_valueBehind_16 : decode cX11_valueBehind 16 = .ok (.iload_n 3, 1) := by decide +kernel
theorem dX11_valueBehind_17 : decode cX11_valueBehind 17 = .ok (.invokevirtual 177, 3) := by decide +kernel
theorem dX11_valueBehind_20 : decode cX11_valueBehind 20 = .ok (.ireturn, 1) := by decide +kernel
theorem dX11_insertEnd_0 : decode cX11_insertEnd 0 = .ok (.aload_n 0, 1) := by decide +kernel
theorem dX11_insertEnd_1 : decode cX11_insertEnd 1 = .ok (.aload_n 0, 1) := by decide +kernel
theorem dX11_insertEnd_2 : decode cX11_insertEnd 2 = .ok (.iload_n 1, 1) := by decide +kernel
theorem dX11_insertEnd_3 : decode cX11_insertEnd 3 = .ok (.iconst 2, 1) := by decide +kernel
theorem dX11_insertEnd_4 : decode cX11_insertEnd 4 = .ok (.invokevirtual 171, 3) := by decide +kernel
theorem dX11_insertEnd_7 : decode cX11_insertEnd 7 = .ok (.bipush 61, 2) := by decide +kernel
theorem dX11_insertEnd_9 : decode cX11_insertEnd 9 = .ok (.invokevirtual 180, 3) := by decide +kernel
theorem dX11_insertEnd_12 : decode cX11_insertEnd 12 = .ok (.istore_n 2, 1) := by decide +kernel
theorem dX11_insertEnd_13 : decode cX11_insertEnd 13 = .ok (.aload_n 0, 1) := by decide +kernel
theorem dX11_insertEnd_14 : decode cX11_insertEnd 14 = .ok (.iload_n 2, 1) := by decide +kernel
theorem dX11_insertEnd_15 : decode cX11_insertEnd 15 = .ok (.bipush 44, 2) := by decide +kernel
theorem dX11_insertEnd_17 : decode cX11_insertEnd 17 = .ok (.invokevirtual 180, 3) := by decide +kernel
theorem dX11_insertEnd_20 : decode cX11_insertEnd 20 = .ok (.istore_n 2, 1) := by decide +kernel
theorem dX11_insertEnd_21 : decode cX11_insertEnd 21 = .ok (.aload_n 0, 1) := by decide +kernel
theorem dX11_insertEnd_22 : decode cX11_insertEnd 22 = .ok (.iload_n 2, 1) := by decide +kernel
theorem dX11_insertEnd_23 : decode cX11_insertEnd 23 = .ok (.bipush 44, 2) := by decide +kernel
theorem dX11_insertEnd_25 : decode cX11_insertEnd 25 = .ok (.invokevirtual 180, 3) := by decide +kernel
theorem dX11_insertEnd_28 : decode cX11_insertEnd 28 = .ok (.ireturn, 1) := by decide +kernel
theorem dX11_updateEnd_0 : decode cX11_updateEnd 0 = .ok (.aload_n 0, 1) := by decide +kernel
theorem dX11_updateEnd_1 : decode cX11_updateEnd 1 = .ok (.aload_n 0, 1) := by decide +kernel
theorem dX11_updateEnd_2 : decode cX11_updateEnd 2 = .ok (.iload_n 1, 1) := by decide +kernel
theorem dX11_updateEnd_3 : decode cX11_updateEnd 3 = .ok (.iconst 2, 1) := by decide +kernel
theorem dX11_updateEnd_4 : decode cX11_updateEnd 4 = .ok (.invokevirtual 171, 3) := by decide +kernel
theorem dX11_updateEnd_7 : decode cX11_updateEnd 7 = .ok (.bipush 46, 2) := by decide +kernel
theorem dX11_updateEnd_9 : decode cX11_updateEnd 9 = .ok (.invokevirtual 174, 3) := by decide +kernel
theorem dX11_updateEnd_12 : decode cX11_updateEnd 12 = .ok (.istore_n 2, 1) := by decide +kernel
theorem dX11_updateEnd_13 : decode cX11_updateEnd 13 = .ok (.iload_n 2, 1) := by decide +kernel
theorem dX11_updateEnd_14 : decode cX11_updateEnd 14 = .ok (.ifCond .lt 26, 3) := by decide +kernel
theorem dX11_updateEnd_17 : decode cX11_updateEnd 17 = .ok (.aload_n 0, 1) := by decide +kernel
theorem dX11_updateEnd_18 : decode cX11_updateEnd 18 = .ok (.iload_n 2, 1) := by decide +kernel
theorem dX11_updateEnd_19 : decode cX11_updateEnd 19 = .ok (.invokevirtual 168, 3) := by decide +kernel
theorem dX11_updateEnd_22 : decode cX11_updateEnd 22 = .ok (.iconst 0, 1) := by decide +kernel
theorem dX11_updateEnd_23 : decode cX11_updateEnd 23 = .ok (.iconst 2, 1) := by decide +kernel
theorem dX11_updateEnd_24 : decode cX11_updateEnd 24 = .ok (.invokestatic 25, 3) := by decide +kernel
theorem dX11_updateEnd_27 : decode cX11_updateEnd 27 = .ok (.ifCond .eq 9, 3) := by decide +kernel
theorem dX11_updateEnd_30 : decode cX11_updateEnd 30 = .ok (.iload_n 2, 1) := by decide +kernel
theorem dX11_updateEnd_31 : decode cX11_updateEnd 31 = .ok (.iconst 1, 1) := by decide +kernel
theorem dX11_updateEnd_32 : decode cX11_updateEnd 32 = .ok (.iadd, 1) := by decide +kernel
theorem dX11_updateEnd_33 : decode cX11_updateEnd 33 = .ok (.goto 6, 3) := by decide +kernel
theorem dX11_updateEnd_36 : decode cX11_updateEnd 36 = .ok (.iconst (-1), 1) := by decide +kernel
theorem dX11_updateEnd_37 : decode cX11_updateEnd 37 = .ok (.iload_n 2, 1) := by decide +kernel
theorem dX11_updateEnd_38 : decode cX11_updateEnd 38 = .ok (.isub, 1) := by decide +kernel
theorem dX11_updateEnd_39 : decode cX11_updateEnd 39 = .ok (.istore_n 2, 1) := by decide +kernel
theorem dX11_updateEnd_40 : decode cX11_updateEnd 40 = .ok (.aload_n 0, 1) := by decide +kernel
theorem dX11_updateEnd_41 : decode cX11_updateEnd 41 = .ok (.iload_n 2, 1) := by decide +kernel
theorem dX11_updateEnd_42 : decode cX11_updateEnd 42 = .ok (.bipush 61, 2) := by decide +kernel
theorem dX11_updateEnd_44 : decode cX11_updateEnd 44 = .ok (.invokevirtual 180, 3) := by decide +kernel
theorem dX11_updateEnd_47 : decode cX11_updateEnd 47 = .ok (.ireturn, 1) := by decide +kernel
theorem dX11_statementEnd_0 : decode cX11_statementEnd 0 = .ok (.aload_n 0, 1) := by decide +kernel
theorem dX11_statementEnd_1 : decode cX11_statementEnd 1 = .ok (.iload_n 1, 1) := by decide +kernel
theorem dX11_statementEnd_2 : decode cX11_statementEnd 2 = .ok (.invokevirtual 164, 3) := by decide +kernel
theorem dX11_statementEnd_5 : decode cX11_statementEnd 5 = .ok (.lookupswitch 60 #[(100, 51), (105, 35), (117, 43)], 35) := by decide +kernel
theorem dX11_statementEnd_40 : decode cX11_statementEnd 40 = .ok (.aload_n 0, 1) := by decide +kernel
theorem dX11_statementEnd_41 : decode cX11_statementEnd 41 = .ok (.iload_n 1, 1) := by decide +kernel
theorem dX11_statementEnd_42 : decode cX11_statementEnd 42 = .ok (.iconst 1, 1) := by decide +kernel
theorem dX11_statementEnd_43 : decode cX11_statementEnd 43 = .ok (.iadd, 1) := by decide +kernel
theorem dX11_statementEnd_44 : decode cX11_statementEnd 44 = .ok (.invokevirtual 183, 3) := by decide +kernel
theorem dX11_statementEnd_47 : decode cX11_statementEnd 47 = .ok (.ireturn, 1) := by decide +kernel
theorem dX11_statementEnd_48 : decode cX11_statementEnd 48 = .ok (.aload_n 0, 1) := by decide +kernel
theorem dX11_statementEnd_49 : decode cX11_statementEnd 49 = .ok (.iload_n 1, 1) := by decide +kernel
theorem dX11_statementEnd_50 : decode cX11_statementEnd 50 = .ok (.iconst 1, 1) := by decide +kernel
theorem dX11_statementEnd_51 : decode cX11_statementEnd 51 = .ok (.iadd, 1) := by decide +kernel
theorem dX11_statementEnd_52 : decode cX11_statementEnd 52 = .ok (.invokevirtual 186, 3) := by decide +kernel
theorem dX11_statementEnd_55 : decode cX11_statementEnd 55 = .ok (.ireturn, 1) := by decide +kernel
theorem dX11_statementEnd_56 : decode cX11_statementEnd 56 = .ok (.aload_n 0, 1) := by decide +kernel
theorem dX11_statementEnd_57 : decode cX11_statementEnd 57 = .ok (.iload_n 1, 1) := by decide +kernel
theorem dX11_statementEnd_58 : decode cX11_statementEnd 58 = .ok (.iconst 1, 1) := by decide +kernel
theorem dX11_statementEnd_59 : decode cX11_statementEnd 59 = .ok (.iadd, 1) := by decide +kernel
theorem dX11_statementEnd_60 : decode cX11_statementEnd 60 = .ok (.iconst 2, 1) := by decide +kernel
theorem dX11_statementEnd_61 : decode cX11_statementEnd 61 = .ok (.invokevirtual 171, 3) := by decide +kernel
theorem dX11_statementEnd_64 : decode cX11_statementEnd 64 = .ok (.ireturn, 1) := by decide +kernel
theorem dX11_statementEnd_65 : decode cX11_statementEnd 65 = .ok (.iconst (-1), 1) := by decide +kernel
theorem dX11_statementEnd_66 : decode cX11_statementEnd 66 = .ok (.iload_n 1, 1) := by decide +kernel
theorem dX11_statementEnd_67 : decode cX11_statementEnd 67 = .ok (.isub, 1) := by decide +kernel
theorem dX11_statementEnd_68 : decode cX11_statementEnd 68 = .ok (.ireturn, 1) := by decide +kernel
theorem dX11_fault_0 : decode cX11_fault 0 = .ok (.iconst 0, 1) := by decide +kernel
theorem dX11_fault_1 : decode cX11_fault 1 = .ok (.istore_n 1, 1) := by decide +kernel
theorem dX11_fault_2 : decode cX11_fault 2 = .ok (.iconst 0, 1) := by decide +kernel
theorem dX11_fault_3 : decode cX11_fault 3 = .ok (.istore_n 2, 1) := by decide +kernel
theorem dX11_fault_4 : decode cX11_fault 4 = .ok (.iload_n 2, 1) := by decide +kernel
theorem dX11_fault_5 : decode cX11_fault 5 = .ok (.bipush 80, 2) := by decide +kernel
theorem dX11_fault_7 : decode cX11_fault 7 = .ok (.if_icmp .ge 51, 3) := by decide +kernel
theorem dX11_fault_10 : decode cX11_fault 10 = .ok (.aload_n 0, 1) := by decide +kernel
theorem dX11_fault_11 : decode cX11_fault 11 = .ok (.iload_n 1, 1) := by decide +kernel
theorem dX11_fault_12 : decode cX11_fault 12 = .ok (.invokevirtual 189, 3) := by decide +kernel
theorem dX11_fault_15 : decode cX11_fault 15 = .ok (.istore_n 3, 1) := by decide +kernel
theorem dX11_fault_16 : decode cX11_fault 16 = .ok (.iload_n 3, 1) := by decide +kernel
theorem dX11_fault_17 : decode cX11_fault 17 = .ok (.ifCond .ge 7, 3) := by decide +kernel
theorem dX11_fault_20 : decode cX11_fault 20 = .ok (.iconst (-1), 1) := by decide +kernel
theorem dX11_fault_21 : decode cX11_fault 21 = .ok (.iload_n 3, 1) := by decide +kernel
theorem dX11_fault_22 : decode cX11_fault 22 = .ok (.isub, 1) := by decide +kernel
theorem dX11_fault_23 : decode cX11_fault 23 = .ok (.ireturn, 1) := by decide +kernel
theorem dX11_fault_24 : decode cX11_fault 24 = .ok (.iload_n 3, 1) := by decide +kernel
theorem dX11_fault_25 : decode cX11_fault 25 = .ok (.aload_n 0, 1) := by decide +kernel
theorem dX11_fault_26 : decode cX11_fault 26 = .ok (.getfield 161, 3) := by decide +kernel
theorem dX11_fault_29 : decode cX11_fault 29 = .ok (.if_icmp .ne 7, 3) := by decide +kernel
theorem dX11_fault_32 : decode cX11_fault 32 = .ok (.sipush (-1006), 3) := by decide +kernel
theorem dX11_fault_35 : decode cX11_fault 35 = .ok (.ireturn, 1) := by decide +kernel
theorem dX11_fault_36 : decode cX11_fault 36 = .ok (.aload_n 0, 1) := by decide +kernel
theorem dX11_fault_37 : decode cX11_fault 37 = .ok (.iload_n 3, 1) := by decide +kernel
theorem dX11_fault_38 : decode cX11_fault 38 = .ok (.invokevirtual 164, 3) := by decide +kernel
theorem dX11_fault_41 : decode cX11_fault 41 = .ok (.bipush 59, 2) := by decide +kernel
theorem dX11_fault_43 : decode cX11_fault 43 = .ok (.if_icmp .eq 5, 3) := by decide +kernel
theorem dX11_fault_46 : decode cX11_fault 46 = .ok (.iload_n 3, 1) := by decide +kernel
theorem dX11_fault_47 : decode cX11_fault 47 = .ok (.ireturn, 1) := by decide +kernel
theorem dX11_fault_48 : decode cX11_fault 48 = .ok (.iload_n 3, 1) := by decide +kernel
theorem dX11_fault_49 : decode cX11_fault 49 = .ok (.iconst 1, 1) := by decide +kernel
theorem dX11_fault_50 : decode cX11_fault 50 = .ok (.iadd, 1) := by decide +kernel
theorem dX11_fault_51 : decode cX11_fault 51 = .ok (.istore_n 1, 1) := by decide +kernel
theorem dX11_fault_52 : decode cX11_fault 52 = .ok (.iinc 2 1, 3) := by decide +kernel
theorem dX11_fault_55 : decode cX11_fault 55 = .ok (.goto (-51), 3) := by decide +kernel
theorem dX11_fault_58 : decode cX11_fault 58 = .ok (.sipush (-1006), 3) := by decide +kernel
theorem dX11_fault_61 : decode cX11_fault 61 = .ok (.ireturn, 1) := by decide +kernel
theorem dX11_numberAt_0 : decode cX11_numberAt 0 = .ok (.aload_n 0, 1) := by decide +kernel
theorem dX11_numberAt_1 : decode cX11_numberAt 1 = .ok (.iload_n 1, 1) := by decide +kernel
theorem dX11_numberAt_2 : decode cX11_numberAt 2 = .ok (.invokevirtual 164, 3) := by decide +kernel
theorem dX11_numberAt_5 : decode cX11_numberAt 5 = .ok (.bipush 45, 2) := by decide +kernel
theorem dX11_numberAt_7 : decode cX11_numberAt 7 = .ok (.if_icmp .ne 7, 3) := by decide +kernel
theorem dX11_numberAt_10 : decode cX11_numberAt 10 = .ok (.iconst 1, 1) := by decide +kernel
theorem dX11_numberAt_11 : decode cX11_numberAt 11 = .ok (.goto 4, 3) := by decide +kernel
theorem dX11_numberAt_14 : decode cX11_numberAt 14 = .ok (.iconst 0, 1) := by decide +kernel
theorem dX11_numberAt_15 : decode cX11_numberAt 15 = .ok (.istore_n 2, 1) := by decide +kernel
theorem dX11_numberAt_16 : decode cX11_numberAt 16 = .ok (.iconst 0, 1) := by decide +kernel
theorem dX11_numberAt_17 : decode cX11_numberAt 17 = .ok (.istore_n 3, 1) := by decide +kernel
theorem dX11_numberAt_18 : decode cX11_numberAt 18 = .ok (.iload_n 2, 1) := by decide +kernel
theorem dX11_numberAt_19 : decode cX11_numberAt 19 = .ok (.ifCond .eq 9, 3) := by decide +kernel
theorem dX11_numberAt_22 : decode cX11_numberAt 22 = .ok (.iload_n 1, 1) := by decide +kernel
theorem dX11_numberAt_23 : decode cX11_numberAt 23 = .ok (.iconst 1, 1) := by decide +kernel
theorem dX11_numberAt_24 : decode cX11_numberAt 24 = .ok (.iadd, 1) := by decide +kernel
theorem dX11_numberAt_25 : decode cX11_numberAt 25 = .ok (.goto 4, 3) := by decide +kernel
theorem dX11_numberAt_28 : decode cX11_numberAt 28 = .ok (.iload_n 1, 1) := by decide +kernel
theorem dX11_numberAt_29 : decode cX11_numberAt 29 = .ok (.istore 4, 2) := by decide +kernel
theorem dX11_numberAt_31 : decode cX11_numberAt 31 = .ok (.aload_n 0, 1) := by decide +kernel
theorem dX11_numberAt_32 : decode cX11_numberAt 32 = .ok (.iload 4, 2) := by decide +kernel
theorem dX11_numberAt_34 : decode cX11_numberAt 34 = .ok (.invokevirtual 168, 3) := by decide +kernel
theorem dX11_numberAt_37 : decode cX11_numberAt 37 = .ok (.ifCond .lt 21, 3) := by decide +kernel
theorem dX11_numberAt_40 : decode cX11_numberAt 40 = .ok (.bipush 10, 2) := by decide +kernel
theorem dX11_numberAt_42 : decode cX11_numberAt 42 = .ok (.iload_n 3, 1) := by decide +kernel
theorem dX11_numberAt_43 : decode cX11_numberAt 43 = .ok (.imul, 1) := by decide +kernel
theorem dX11_numberAt_44 : decode cX11_numberAt 44 = .ok (.aload_n 0, 1) := by decide +kernel
theorem dX11_numberAt_45 : decode cX11_numberAt 45 = .ok (.iload 4, 2) := by decide +kernel
theorem dX11_numberAt_47 : decode cX11_numberAt 47 = .ok (.invokevirtual 168, 3) := by decide +kernel
theorem dX11_numberAt_50 : decode cX11_numberAt 50 = .ok (.iadd, 1) := by decide +kernel
theorem dX11_numberAt_51 : decode cX11_numberAt 51 = .ok (.istore_n 3, 1) := by decide +kernel
theorem dX11_numberAt_52 : decode cX11_numberAt 52 = .ok (.iinc 4 1, 3) := by decide +kernel
theorem dX11_numberAt_55 : decode cX11_numberAt 55 = .ok (.goto (-24), 3) := by decide +kernel
theorem dX11_numberAt_58 : decode cX11_numberAt 58 = .ok (.iload_n 2, 1) := by decide +kernel
theorem dX11_numberAt_59 : decode cX11_numberAt 59 = .ok (.ifCond .eq 8, 3) := by decide +kernel
theorem dX11_numberAt_62 : decode cX11_numberAt 62 = .ok (.iload_n 3, 1) := by decide +kernel
theorem dX11_numberAt_63 : decode cX11_numberAt 63 = .ok (.ineg, 1) := by decide +kernel
theorem dX11_numberAt_64 : decode cX11_numberAt 64 = .ok (.goto 4, 3) := by decide +kernel
theorem dX11_numberAt_67 : decode cX11_numberAt 67 = .ok (.iload_n 3, 1) := by decide +kernel
theorem dX11_numberAt_68 : decode cX11_numberAt 68 = .ok (.ireturn, 1) := by decide +kernel
theorem dX11_does_0 : decode cX11_does 0 = .ok (.aload_n 0, 1) := by decide +kernel
theorem dX11_does_1 : decode cX11_does 1 = .ok (.iload_n 1, 1) := by decide +kernel
theorem dX11_does_2 : decode cX11_does 2 = .ok (.iconst 1, 1) := by decide +kernel
theorem dX11_does_3 : decode cX11_does 3 = .ok (.iadd, 1) := by decide +kernel
theorem dX11_does_4 : decode cX11_does 4 = .ok (.invokevirtual 192, 3) := by decide +kernel
theorem dX11_does_7 : decode cX11_does 7 = .ok (.istore_n 2, 1) := by decide +kernel
theorem dX11_does_8 : decode cX11_does 8 = .ok (.aload_n 0, 1) := by decide +kernel
theorem dX11_does_9 : decode cX11_does 9 = .ok (.iload_n 1, 1) := by decide +kernel
theorem dX11_does_10 : decode cX11_does 10 = .ok (.iconst 1, 1) := by decide +kernel
theorem dX11_does_11 : decode cX11_does 11 = .ok (.iadd, 1) := by decide +kernel
theorem dX11_does_12 : decode cX11_does 12 = .ok (.iconst 2, 1) := by decide +kernel
theorem dX11_does_13 : decode cX11_does 13 = .ok (.invokevirtual 171, 3) := by decide +kernel
theorem dX11_does_16 : decode cX11_does 16 = .ok (.istore_n 3, 1) := by decide +kernel
theorem dX11_does_17 : decode cX11_does 17 = .ok (.aload_n 0, 1) := by decide +kernel
theorem dX11_does_18 : decode cX11_does 18 = .ok (.sipush 413, 3) := by decide +kernel
theorem dX11_does_21 : decode cX11_does 21 = .ok (.iload_n 2, 1) := by decide +kernel
theorem dX11_does_22 : decode cX11_does 22 = .ok (.invokevirtual 54, 3) := by decide +kernel
theorem dX11_does_25 : decode cX11_does 25 = .ok (.ifCond .ge 9, 3) := by decide +kernel
theorem dX11_does_28 : decode cX11_does 28 = .ok (.sipush (-1001), 3) := by decide +kernel
theorem dX11_does_31 : decode cX11_does 31 = .ok (.goto 4, 3) := by decide +kernel
theorem dX11_does_34 : decode cX11_does 34 = .ok (.iconst 0, 1) := by decide +kernel
theorem dX11_does_35 : decode cX11_does 35 = .ok (.istore 4, 2) := by decide +kernel
theorem dX11_does_37 : decode cX11_does 37 = .ok (.aload_n 0, 1) := by decide +kernel
theorem dX11_does_38 : decode cX11_does 38 = .ok (.iload_n 1, 1) := by decide +kernel
theorem dX11_does_39 : decode cX11_does 39 = .ok (.invokevirtual 164, 3) := by decide +kernel
theorem dX11_does_42 : decode cX11_does 42 = .ok (.bipush 105, 2) := by decide +kernel
theorem dX11_does_44 : decode cX11_does 44 = .ok (.if_icmp .ne 69, 3) := by decide +kernel
theorem dX11_does_47 : decode cX11_does 47 = .ok (.aload_n 0, 1) := by decide +kernel
theorem dX11_does_48 : decode cX11_does 48 = .ok (.iload_n 3, 1) := by decide +kernel
theorem dX11_does_49 : decode cX11_does 49 = .ok (.iconst 1, 1) := by decide +kernel
theorem dX11_does_50 : decode cX11_does 50 = .ok (.iadd, 1) := by decide +kernel
theorem dX11_does_51 : decode cX11_does 51 = .ok (.invokevirtual 177, 3) := by decide +kernel
theorem dX11_does_54 : decode cX11_does 54 = .ok (.iconst 1, 1) := by decide +kernel
theorem dX11_does_55 : decode cX11_does 55 = .ok (.iadd, 1) := by decide +kernel
theorem dX11_does_56 : decode cX11_does 56 = .ok (.istore 5, 2) := by decide +kernel
theorem dX11_does_58 : decode cX11_does 58 = .ok (.aload_n 0, 1) := by decide +kernel
theorem dX11_does_59 : decode cX11_does 59 = .ok (.iload 5, 2) := by decide +kernel
theorem dX11_does_61 : decode cX11_does 61 = .ok (.invokevirtual 177, 3) := by decide +kernel
theorem dX11_does_64 : decode cX11_does 64 = .ok (.iconst 1, 1) := by decide +kernel
theorem dX11_does_65 : decode cX11_does 65 = .ok (.iadd, 1) := by decide +kernel
theorem dX11_does_66 : decode cX11_does 66 = .ok (.istore 6, 2) := by decide +kernel
theorem dX11_does_68 : decode cX11_does 68 = .ok (.aload_n 0, 1) := by decide +kernel
theorem dX11_does_69 : decode cX11_does 69 = .ok (.sipush 413, 3) := by decide +kernel
theorem dX11_does_72 : decode cX11_does 72 = .ok (.iload_n 2, 1) := by decide +kernel
theorem dX11_does_73 : decode cX11_does 73 = .ok (.invokevirtual 129, 3) := by decide +kernel
theorem dX11_does_76 : decode cX11_does 76 = .ok (.istore 4, 2) := by decide +kernel
theorem dX11_does_78 : decode cX11_does 78 = .ok (.iload 4, 2) := by decide +kernel
theorem dX11_does_80 : decode cX11_does 80 = .ok (.ifCond .ne 30, 3) := by decide +kernel
theorem dX11_does_83 : decode cX11_does 83 = .ok (.aload_n 0, 1) := by decide +kernel
theorem dX11_does_84 : decode cX11_does 84 = .ok (.sipush 413, 3) := by decide +kernel
theorem dX11_does_87 : decode cX11_does 87 = .ok (.iload_n 2, 1) := by decide +kernel
theorem dX11_does_88 : decode cX11_does 88 = .ok (.aload_n 0, 1) := by decide +kernel
theorem dX11_does_89 : decode cX11_does 89 = .ok (.iload_n 3, 1) := by decide +kernel
theorem dX11_does_90 : decode cX11_does 90 = .ok (.iconst 1, 1) := by decide +kernel
theorem dX11_does_91 : decode cX11_does 91 = .ok (.iadd, 1) := by decide +kernel
theorem dX11_does_92 : decode cX11_does 92 = .ok (.invokevirtual 192, 3) := by decide +kernel
theorem dX11_does_95 : decode cX11_does 95 = .ok (.aload_n 0, 1) := by decide +kernel
theorem dX11_does_96 : decode cX11_does 96 = .ok (.iload 5, 2) := by decide +kernel
theorem dX11_does_98 : decode cX11_does 98 = .ok (.invokevirtual 192, 3) := by decide +kernel
theorem dX11_does_101 : decode cX11_does 101 = .ok (.aload_n 0, 1) := by decide +kernel
theorem dX11_does_102 : decode cX11_does 102 = .ok (.iload 6, 2) := by decide +kernel
theorem dX11_does_104 : decode cX11_does 104 = .ok (.invokevirtual 192, 3) := by decide +kernel
theorem dX11_does_107 : decode cX11_does 107 = .ok (.invokevirtual 138, 3) := by decide +kernel
theorem dX11_does_110 : decode cX11_does 110 = .ok (.goto 79, 3) := by decide +kernel
theorem dX11_does_113 : decode cX11_does 113 = .ok (.aload_n 0, 1) := by decide +kernel
theorem dX11_does_114 : decode cX11_does 114 = .ok (.iload_n 1, 1) := by decide +kernel
theorem dX11_does_115 : decode cX11_does 115 = .ok (.invokevirtual 164, 3) := by decide +kernel
theorem dX11_does_118 : decode cX11_does 118 = .ok (.bipush 117, 2) := by decide +kernel
theorem dX11_does_120 : decode cX11_does 120 = .ok (.if_icmp .ne 56, 3) := by decide +kernel
theorem dX11_does_123 : decode cX11_does 123 = .ok (.aload_n 0, 1) := by decide +kernel
theorem dX11_does_124 : decode cX11_does 124 = .ok (.iload_n 3, 1) := by decide +kernel
theorem dX11_does_125 : decode cX11_does 125 = .ok (.iconst 3, 1) := by decide +kernel
theorem dX11_does_126 : decode cX11_does 126 = .ok (.iadd, 1) := by decide +kernel
theorem dX11_does_127 : decode cX11_does 127 = .ok (.invokevirtual 192, 3) := by decide +kernel
theorem dX11_does_130 : decode cX11_does 130 = .ok (.istore 5, 2) := by decide +kernel
theorem dX11_does_132 : decode cX11_does 132 = .ok (.aload_n 0, 1) := by decide +kernel
theorem dX11_does_133 : decode cX11_does 133 = .ok (.sipush 413, 3) := by decide +kernel
theorem dX11_does_136 : decode cX11_does 136 = .ok (.iload_n 2, 1) := by decide +kernel
theorem dX11_does_137 : decode cX11_does 137 = .ok (.aload_n 0, 1) := by decide +kernel
theorem dX11_does_138 : decode cX11_does 138 = .ok (.iload_n 3, 1) := by decide +kernel
theorem dX11_does_139 : decode cX11_does 139 = .ok (.iconst 1, 1) := by decide +kernel
theorem dX11_does_140 : decode cX11_does 140 = .ok (.iadd, 1) := by decide +kernel
theorem dX11_does_141 : decode cX11_does 141 = .ok (.invokevirtual 168, 3) := by decide +kernel
theorem dX11_does_144 : decode cX11_does 144 = .ok (.iload 5, 2) := by decide +kernel
theorem dX11_does_146 : decode cX11_does 146 = .ok (.invokevirtual 132, 3) := by decide +kernel
theorem dX11_does_149 : decode cX11_does 149 = .ok (.istore 4, 2) := by decide +kernel
theorem dX11_does_151 : decode cX11_does 151 = .ok (.iload 4, 2) := by decide +kernel
theorem dX11_does_153 : decode cX11_does 153 = .ok (.ifCond .ne 20, 3) := by decide +kernel
theorem dX11_does_156 : decode cX11_does 156 = .ok (.aload_n 0, 1) := by decide +kernel
theorem dX11_does_157 : decode cX11_does 157 = .ok (.sipush 413, 3) := by decide +kernel
theorem dX11_does_160 : decode cX11_does 160 = .ok (.iload_n 2, 1) := by decide +kernel
theorem dX11_does_161 : decode cX11_does 161 = .ok (.aload_n 0, 1) := by decide +kernel
theorem dX11_does_162 : decode cX11_does 162 = .ok (.iload_n 3, 1) := by decide +kernel
theorem dX11_does_163 : decode cX11_does 163 = .ok (.iconst 1, 1) := by decide +kernel
theorem dX11_does_164 : decode cX11_does 164 = .ok (.iadd, 1) := by decide +kernel
theorem dX11_does_165 : decode cX11_does 165 = .ok (.invokevirtual 168, 3) := by decide +kernel
theorem dX11_does_168 : decode cX11_does 168 = .ok (.iload 5, 2) := by decide +kernel
theorem dX11_does_170 : decode cX11_does 170 = .ok (.invokevirtual 149, 3) := by decide +kernel
theorem dX11_does_173 : decode cX11_does 173 = .ok (.goto 16, 3) := by decide +kernel
theorem dX11_does_176 : decode cX11_does 176 = .ok (.iload 4, 2) := by decide +kernel
theorem dX11_does_178 : decode cX11_does 178 = .ok (.ifCond .ne 11, 3) := by decide +kernel
theorem dX11_does_181 : decode cX11_does 181 = .ok (.aload_n 0, 1) := by decide +kernel
theorem dX11_does_182 : decode cX11_does 182 = .ok (.sipush 413, 3) := by decide +kernel
theorem dX11_does_185 : decode cX11_does 185 = .ok (.iload_n 2, 1) := by decide +kernel
theorem dX11_does_186 : decode cX11_does 186 = .ok (.invokevirtual 152, 3) := by decide +kernel
theorem dX11_does_189 : decode cX11_does 189 = .ok (.iload 4, 2) := by decide +kernel
theorem dX11_does_191 : decode cX11_does 191 = .ok (.ifCond .ne 16, 3) := by decide +kernel
theorem dX11_does_194 : decode cX11_does 194 = .ok (.aload_n 0, 1) := by decide +kernel
theorem dX11_does_195 : decode cX11_does 195 = .ok (.getfield 48, 3) := by decide +kernel
theorem dX11_does_198 : decode cX11_does 198 = .ok (.ifCond .le 9, 3) := by decide +kernel
theorem dX11_does_201 : decode cX11_does 201 = .ok (.sipush (-1005), 3) := by decide +kernel
theorem dX11_does_204 : decode cX11_does 204 = .ok (.goto 5, 3) := by decide +kernel
theorem dX11_does_207 : decode cX11_does 207 = .ok (.iload 4, 2) := by decide +kernel
theorem dX11_does_209 : decode cX11_does 209 = .ok (.ireturn, 1) := by decide +kernel
theorem dX11_perform_0 : decode cX11_perform 0 = .ok (.aload_n 0, 1) := by decide +kernel
theorem dX11_perform_1 : decode cX11_perform 1 = .ok (.invokevirtual 195, 3) := by decide +kernel
theorem dX11_perform_4 : decode cX11_perform 4 = .ok (.istore_n 1, 1) := by decide +kernel
theorem dX11_perform_5 : decode cX11_perform 5 = .ok (.iload_n 1, 1) := by decide +kernel
theorem dX11_perform_6 : decode cX11_perform 6 = .ok (.sipush (-1006), 3) := by decide +kernel
theorem dX11_perform_9 : decode cX11_perform 9 = .ok (.if_icmp .eq 9, 3) := by decide +kernel
theorem dX11_perform_12 : decode cX11_perform 12 = .ok (.sipush (-2000), 3) := by decide +kernel
theorem dX11_perform_15 : decode cX11_perform 15 = .ok (.iload_n 1, 1) := by decide +kernel
theorem dX11_perform_16 : decode cX11_perform 16 = .ok (.isub, 1) := by decide +kernel
theorem dX11_perform_17 : decode cX11_perform 17 = .ok (.ireturn, 1) := by decide +kernel
theorem dX11_perform_18 : decode cX11_perform 18 = .ok (.aload_n 0, 1) := by decide +kernel
theorem dX11_perform_19 : decode cX11_perform 19 = .ok (.iconst 0, 1) := by decide +kernel
theorem dX11_perform_20 : decode cX11_perform 20 = .ok (.sipush 413, 3) := by decide +kernel
theorem dX11_perform_23 : decode cX11_perform 23 = .ok (.invokevirtual 36, 3) := by decide +kernel
theorem dX11_perform_26 : decode cX11_perform 26 = .ok (.iconst 0, 1) := by decide +kernel
theorem dX11_perform_27 : decode cX11_perform 27 = .ok (.istore_n 2, 1) := by decide +kernel
theorem dX11_perform_28 : decode cX11_perform 28 = .ok (.iconst 0, 1) := by decide +kernel
theorem dX11_perform_29 : decode cX11_perform 29 = .ok (.istore_n 3, 1) := by decide +kernel
theorem dX11_perform_30 : decode cX11_perform 30 = .ok (.iload_n 3, 1) := by decide +kernel
theorem dX11_perform_31 : decode cX11_perform 31 = .ok (.aload_n 0, 1) := by decide +kernel
theorem dX11_perform_32 : decode cX11_perform 32 = .ok (.getfield 161, 3) := by decide +kernel
theorem dX11_perform_35 : decode cX11_perform 35 = .ok (.if_icmp .ge 40, 3) := by decide +kernel
theorem dX11_perform_38 : decode cX11_perform 38 = .ok (.aload_n 0, 1) := by decide +kernel
theorem dX11_perform_39 : decode cX11_perform 39 = .ok (.iload_n 3, 1) := by decide +kernel
theorem dX11_perform_40 : decode cX11_perform 40 = .ok (.invokevirtual 198, 3) := by decide +kernel
theorem dX11_perform_43 : decode cX11_perform 43 = .ok (.istore 4, 2) := by decide +kernel
theorem dX11_perform_45 : decode cX11_perform 45 = .ok (.iload 4, 2) := by decide +kernel
theorem dX11_perform_47 : decode cX11_perform 47 = .ok (.ifCond .eq 14, 3) := by decide +kernel
theorem dX11_perform_50 : decode cX11_perform 50 = .ok (.iload 4, 2) := by decide +kernel
theorem dX11_perform_52 : decode cX11_perform 52 = .ok (.sipush (-1006), 3) := by decide +kernel
theorem dX11_perform_55 : decode cX11_perform 55 = .ok (.if_icmp .eq 6, 3) := by decide +kernel
theorem dX11_perform_58 : decode cX11_perform 58 = .ok (.iload 4, 2) := by decide +kernel
theorem dX11_perform_60 : decode cX11_perform 60 = .ok (.ireturn, 1) := by decide +kernel
theorem dX11_perform_61 : decode cX11_perform 61 = .ok (.iinc 2 1, 3) := by decide +kernel
theorem dX11_perform_64 : decode cX11_perform 64 = .ok (.aload_n 0, 1) := by decide +kernel
theorem dX11_perform_65 : decode cX11_perform 65 = .ok (.iload_n 3, 1) := by decide +kernel
theorem dX11_perform_66 : decode cX11_perform 66 = .ok (.invokevirtual 189, 3) := by decide +kernel
theorem dX11_perform_69 : decode cX11_perform 69 = .ok (.iconst 1, 1) := by decide +kernel
theorem dX11_perform_70 : decode cX11_perform 70 = .ok (.iadd, 1) := by decide +kernel
theorem dX11_perform_71 : decode cX11_perform 71 = .ok (.istore_n 3, 1) := by decide +kernel
theorem dX11_perform_72 : decode cX11_perform 72 = .ok (.goto (-42), 3) := by decide +kernel
theorem dX11_perform_75 : decode cX11_perform 75 = .ok (.aload_n 0, 1) := by decide +kernel
theorem dX11_perform_76 : decode cX11_perform 76 = .ok (.invokevirtual 123, 3) := by decide +kernel
theorem dX11_perform_79 : decode cX11_perform 79 = .ok (.iload_n 2, 1) := by decide +kernel
theorem dX11_perform_80 : decode cX11_perform 80 = .ok (.ireturn, 1) := by decide +kernel
theorem dX11_undo_0 : decode cX11_undo 0 = .ok (.aload_n 0, 1) := by decide +kernel
theorem dX11_undo_1 : decode cX11_undo 1 = .ok (.getfield 29, 3) := by decide +kernel
theorem dX11_undo_4 : decode cX11_undo 4 = .ok (.ifCond .ne 7, 3) := by decide +kernel
theorem dX11_undo_7 : decode cX11_undo 7 = .ok (.sipush (-1006), 3) := by decide +kernel
theorem dX11_undo_10 : decode cX11_undo 10 = .ok (.ireturn, 1) := by decide +kernel
theorem dX11_undo_11 : decode cX11_undo 11 = .ok (.aload_n 0, 1) := by decide +kernel
theorem dX11_undo_12 : decode cX11_undo 12 = .ok (.dup, 1) := by decide +kernel
theorem dX11_undo_13 : decode cX11_undo 13 = .ok (.getfield 29, 3) := by decide +kernel
theorem dX11_undo_16 : decode cX11_undo 16 = .ok (.iconst 1, 1) := by decide +kernel
theorem dX11_undo_17 : decode cX11_undo 17 = .ok (.isub, 1) := by decide +kernel
theorem dX11_undo_18 : decode cX11_undo 18 = .ok (.putfield 29, 3) := by decide +kernel
theorem dX11_undo_21 : decode cX11_undo 21 = .ok (.iconst 0, 1) := by decide +kernel
theorem dX11_undo_22 : decode cX11_undo 22 = .ok (.istore_n 1, 1) := by decide +kernel
theorem dX11_undo_23 : decode cX11_undo 23 = .ok (.iload_n 1, 1) := by decide +kernel
theorem dX11_undo_24 : decode cX11_undo 24 = .ok (.sipush 413, 3) := by decide +kernel
theorem dX11_undo_27 : decode cX11_undo 27 = .ok (.if_icmp .ge 30, 3) := by decide +kernel
theorem dX11_undo_30 : decode cX11_undo 30 = .ok (.aload_n 0, 1) := by decide +kernel
theorem dX11_undo_31 : decode cX11_undo 31 = .ok (.getfield 7, 3) := by decide +kernel
theorem dX11_undo_34 : decode cX11_undo 34 = .ok (.iload_n 1, 1) := by decide +kernel
theorem dX11_undo_35 : decode cX11_undo 35 = .ok (.aload_n 0, 1) := by decide +kernel
theorem dX11_undo_36 : decode cX11_undo 36 = .ok (.getfield 13, 3) := by decide +kernel
theorem dX11_undo_39 : decode cX11_undo 39 = .ok (.sipush 413, 3) := by decide +kernel
theorem dX11_undo_42 : decode cX11_undo 42 = .ok (.aload_n 0, 1) := by decide +kernel
theorem dX11_undo_43 : decode cX11_undo 43 = .ok (.getfield 29, 3) := by decide +kernel
theorem dX11_undo_46 : decode cX11_undo 46 = .ok (.imul, 1) := by decide +kernel
theorem dX11_undo_47 : decode cX11_undo 47 = .ok (.iload_n 1, 1) := by decide +kernel
theorem dX11_undo_48 : decode cX11_undo 48 = .ok (.iadd, 1) := by decide +kernel
theorem dX11_undo_49 : decode cX11_undo 49 = .ok (.iaload, 1) := by decide +kernel
theorem dX11_undo_50 : decode cX11_undo 50 = .ok (.iastore, 1) := by decide +kernel
theorem dX11_undo_51 : decode cX11_undo 51 = .ok (.iinc 1 1, 3) := by decide +kernel
theorem dX11_undo_54 : decode cX11_undo 54 = .ok (.goto (-31), 3) := by decide +kernel
theorem dX11_undo_57 : decode cX11_undo 57 = .ok (.aload_n 0, 1) := by decide +kernel
theorem dX11_undo_58 : decode cX11_undo 58 = .ok (.getfield 29, 3) := by decide +kernel
theorem dX11_undo_61 : decode cX11_undo 61 = .ok (.ireturn, 1) := by decide +kernel
theorem dX11_keep_0 : decode cX11_keep 0 = .ok (.iconst 0, 1) := by decide +kernel
theorem dX11_keep_1 : decode cX11_keep 1 = .ok (.istore_n 1, 1) := by decide +kernel
theorem dX11_keep_2 : decode cX11_keep 2 = .ok (.iload_n 1, 1) := by decide +kernel
theorem dX11_keep_3 : decode cX11_keep 3 = .ok (.sipush 413, 3) := by decide +kernel
theorem dX11_keep_6 : decode cX11_keep 6 = .ok (.if_icmp .ge 21, 3) := by decide +kernel
theorem dX11_keep_9 : decode cX11_keep 9 = .ok (.aload_n 0, 1) := by decide +kernel
theorem dX11_keep_10 : decode cX11_keep 10 = .ok (.getfield 16, 3) := by decide +kernel
theorem dX11_keep_13 : decode cX11_keep 13 = .ok (.iload_n 1, 1) := by decide +kernel
theorem dX11_keep_14 : decode cX11_keep 14 = .ok (.aload_n 0, 1) := by decide +kernel
theorem dX11_keep_15 : decode cX11_keep 15 = .ok (.getfield 7, 3) := by decide +kernel
theorem dX11_keep_18 : decode cX11_keep 18 = .ok (.iload_n 1, 1) := by decide +kernel
theorem dX11_keep_19 : decode cX11_keep 19 = .ok (.iaload, 1) := by decide +kernel
theorem dX11_keep_20 : decode cX11_keep 20 = .ok (.iastore, 1) := by decide +kernel
theorem dX11_keep_21 : decode cX11_keep 21 = .ok (.iinc 1 1, 3) := by decide +kernel
theorem dX11_keep_24 : decode cX11_keep 24 = .ok (.goto (-22), 3) := by decide +kernel
theorem dX11_keep_27 : decode cX11_keep 27 = .ok (.aload_n 0, 1) := by decide +kernel
theorem dX11_keep_28 : decode cX11_keep 28 = .ok (.iconst 1, 1) := by decide +kernel
theorem dX11_keep_29 : decode cX11_keep 29 = .ok (.putfield 201, 3) := by decide +kernel
theorem dX11_keep_32 : decode cX11_keep 32 = .ok (.aload_n 0, 1) := by decide +kernel
theorem dX11_keep_33 : decode cX11_keep 33 = .ok (.getfield 7, 3) := by decide +kernel
theorem dX11_keep_36 : decode cX11_keep 36 = .ok (.iconst 0, 1) := by decide +kernel
theorem dX11_keep_37 : decode cX11_keep 37 = .ok (.iaload, 1) := by decide +kernel
theorem dX11_keep_38 : decode cX11_keep 38 = .ok (.ireturn, 1) := by decide +kernel
theorem dX11_restore_0 : decode cX11_restore 0 = .ok (.aload_n 0, 1) := by decide +kernel
theorem dX11_restore_1 : decode cX11_restore 1 = .ok (.getfield 201, 3) := by decide +kernel
theorem dX11_restore_4 : decode cX11_restore 4 = .ok (.ifCond .ne 7, 3) := by decide +kernel
theorem dX11_restore_7 : decode cX11_restore 7 = .ok (.sipush (-1006), 3) := by decide +kernel
theorem dX11_restore_10 : decode cX11_restore 10 = .ok (.ireturn, 1) := by decide +kernel
theorem dX11_restore_11 : decode cX11_restore 11 = .ok (.aload_n 0, 1) := by decide +kernel
theorem dX11_restore_12 : decode cX11_restore 12 = .ok (.invokevirtual 33, 3) := by decide +kernel
theorem dX11_restore_15 : decode cX11_restore 15 = .ok (.iconst 0, 1) := by decide +kernel
theorem dX11_restore_16 : decode cX11_restore 16 = .ok (.istore_n 1, 1) := by decide +kernel
theorem dX11_restore_17 : decode cX11_restore 17 = .ok (.iload_n 1, 1) := by decide +kernel
theorem dX11_restore_18 : decode cX11_restore 18 = .ok (.sipush 413, 3) := by decide +kernel
theorem dX11_restore_21 : decode cX11_restore 21 = .ok (.if_icmp .ge 21, 3) := by decide +kernel
theorem dX11_restore_24 : decode cX11_restore 24 = .ok (.aload_n 0, 1) := by decide +kernel
theorem dX11_restore_25 : decode cX11_restore 25 = .ok (.getfield 7, 3) := by decide +kernel
theorem dX11_restore_28 : decode cX11_restore 28 = .ok (.iload_n 1, 1) := by decide +kernel
theorem dX11_restore_29 : decode cX11_restore 29 = .ok (.aload_n 0, 1) := by decide +kernel
theorem dX11_restore_30 : decode cX11_restore 30 = .ok (.getfield 16, 3) := by decide +kernel
theorem dX11_restore_33 : decode cX11_restore 33 = .ok (.iload_n 1, 1) := by decide +kernel
theorem dX11_restore_34 : decode cX11_restore 34 = .ok (.iaload, 1) := by decide +kernel
theorem dX11_restore_35 : decode cX11_restore 35 = .ok (.iastore, 1) := by decide +kernel
theorem dX11_restore_36 : decode cX11_restore 36 = .ok (.iinc 1 1, 3) := by decide +kernel
theorem dX11_restore_39 : decode cX11_restore 39 = .ok (.goto (-22), 3) := by decide +kernel
theorem dX11_restore_42 : decode cX11_restore 42 = .ok (.aload_n 0, 1) := by decide +kernel
theorem dX11_restore_43 : decode cX11_restore 43 = .ok (.getfield 7, 3) := by decide +kernel
theorem dX11_restore_46 : decode cX11_restore 46 = .ok (.iconst 0, 1) := by decide +kernel
theorem dX11_restore_47 : decode cX11_restore 47 = .ok (.iaload, 1) := by decide +kernel
theorem dX11_restore_48 : decode cX11_restore 48 = .ok (.ireturn, 1) := by decide +kernel
theorem dX11_field_0 : decode cX11_field 0 = .ok (.aload_n 0, 1) := by decide +kernel
theorem dX11_field_1 : decode cX11_field 1 = .ok (.iconst 0, 1) := by decide +kernel
theorem dX11_field_2 : decode cX11_field 2 = .ok (.iload_n 1, 1) := by decide +kernel
theorem dX11_field_3 : decode cX11_field 3 = .ok (.invokevirtual 54, 3) := by decide +kernel
theorem dX11_field_6 : decode cX11_field 6 = .ok (.istore_n 3, 1) := by decide +kernel
theorem dX11_field_7 : decode cX11_field 7 = .ok (.iload_n 3, 1) := by decide +kernel
theorem dX11_field_8 : decode cX11_field 8 = .ok (.ifCond .ge 7, 3) := by decide +kernel
theorem dX11_field_11 : decode cX11_field 11 = .ok (.sipush (-1001), 3) := by decide +kernel
theorem dX11_field_14 : decode cX11_field 14 = .ok (.ireturn, 1) := by decide +kernel
theorem dX11_field_15 : decode cX11_field 15 = .ok (.iload_n 2, 1) := by decide +kernel
theorem dX11_field_16 : decode cX11_field 16 = .ok (.iconst 0, 1) := by decide +kernel
theorem dX11_field_17 : decode cX11_field 17 = .ok (.iconst 2, 1) := by decide +kernel
theorem dX11_field_18 : decode cX11_field 18 = .ok (.invokestatic 25, 3) := by decide +kernel
theorem dX11_field_21 : decode cX11_field 21 = .ok (.ifCond .eq 16, 3) := by decide +kernel
theorem dX11_field_24 : decode cX11_field 24 = .ok (.aload_n 0, 1) := by decide +kernel
theorem dX11_field_25 : decode cX11_field 25 = .ok (.getfield 7, 3) := by decide +kernel
theorem dX11_field_28 : decode cX11_field 28 = .ok (.iload_n 3, 1) := by decide +kernel
theorem dX11_field_29 : decode cX11_field 29 = .ok (.iconst 1, 1) := by decide +kernel
theorem dX11_field_30 : decode cX11_field 30 = .ok (.iadd, 1) := by decide +kernel
theorem dX11_field_31 : decode cX11_field 31 = .ok (.iload_n 2, 1) := by decide +kernel
theorem dX11_field_32 : decode cX11_field 32 = .ok (.iadd, 1) := by decide +kernel
theorem dX11_field_33 : decode cX11_field 33 = .ok (.iaload, 1) := by decide +kernel
theorem dX11_field_34 : decode cX11_field 34 = .ok (.goto 6, 3) := by decide +kernel
theorem dX11_field_37 : decode cX11_field 37 = .ok (.sipush (-1002), 3) := by decide +kernel
theorem dX11_field_40 : decode cX11_field 40 = .ok (.ireturn, 1) := by decide +kernel
theorem dX11_keyAt_0 : decode cX11_keyAt 0 = .ok (.iload_n 1, 1) := by decide +kernel
theorem dX11_keyAt_1 : decode cX11_keyAt 1 = .ok (.ifCond .ge 7, 3) := by decide +kernel
theorem dX11_keyAt_4 : decode cX11_keyAt 4 = .ok (.sipush (-1002), 3) := by decide +kernel
theorem dX11_keyAt_7 : decode cX11_keyAt 7 = .ok (.ireturn, 1) := by decide +kernel
theorem dX11_keyAt_8 : decode cX11_keyAt 8 = .ok (.iload_n 1, 1) := by decide +kernel
theorem dX11_keyAt_9 : decode cX11_keyAt 9 = .ok (.istore_n 2, 1) := by decide +kernel
theorem dX11_keyAt_10 : decode cX11_keyAt 10 = .ok (.iconst 0, 1) := by decide +kernel
theorem dX11_keyAt_11 : decode cX11_keyAt 11 = .ok (.istore_n 3, 1) := by decide +kernel
theorem dX11_keyAt_12 : decode cX11_keyAt 12 = .ok (.iload_n 3, 1) := by decide +kernel
theorem dX11_keyAt_13 : decode cX11_keyAt 13 = .ok (.bipush 100, 2) := by decide +kernel
theorem dX11_keyAt_15 : decode cX11_keyAt 15 = .ok (.if_icmp .ge 27, 3) := by decide +kernel
theorem dX11_keyAt_18 : decode cX11_keyAt 18 = .ok (.aload_n 0, 1) := by decide +kernel
theorem dX11_keyAt_19 : decode cX11_keyAt 19 = .ok (.iconst 0, 1) := by decide +kernel
theorem dX11_keyAt_20 : decode cX11_keyAt 20 = .ok (.iload_n 3, 1) := by decide +kernel
theorem dX11_keyAt_21 : decode cX11_keyAt 21 = .ok (.invokevirtual 54, 3) := by decide +kernel
theorem dX11_keyAt_24 : decode cX11_keyAt 24 = .ok (.ifCond .lt 12, 3) := by decide +kernel
theorem dX11_keyAt_27 : decode cX11_keyAt 27 = .ok (.iload_n 2, 1) := by decide +kernel
theorem dX11_keyAt_28 : decode cX11_keyAt 28 = .ok (.ifCond .ne 5, 3) := by decide +kernel
theorem dX11_keyAt_31 : decode cX11_keyAt 31 = .ok (.iload_n 3, 1) := by decide +kernel
theorem dX11_keyAt_32 : decode cX11_keyAt 32 = .ok (.ireturn, 1) := by decide +kernel
theorem dX11_keyAt_33 : decode cX11_keyAt 33 = .ok (.iinc 2 (-1), 3) := by decide +kernel
theorem dX11_keyAt_36 : decode cX11_keyAt 36 = .ok (.iinc 3 1, 3) := by decide +kernel
theorem dX11_keyAt_39 : decode cX11_keyAt 39 = .ok (.goto (-27), 3) := by decide +kernel
theorem dX11_keyAt_42 : decode cX11_keyAt 42 = .ok (.sipush (-1006), 3) := by decide +kernel
theorem dX11_keyAt_45 : decode cX11_keyAt 45 = .ok (.ireturn, 1) := by decide +kernel
theorem dX11_rule_0 : decode cX11_rule 0 = .ok (.aload_n 0, 1) := by decide +kernel
theorem dX11_rule_1 : decode cX11_rule 1 = .ok (.iload_n 1, 1) := by decide +kernel
theorem dX11_rule_2 : decode cX11_rule 2 = .ok (.invokevirtual 155, 3) := by decide +kernel
theorem dX11_rule_5 : decode cX11_rule 5 = .ok (.ifCond .ne 7, 3) := by decide +kernel
theorem dX11_rule_8 : decode cX11_rule 8 = .ok (.sipush (-1001), 3) := by decide +kernel
theorem dX11_rule_11 : decode cX11_rule 11 = .ok (.ireturn, 1) := by decide +kernel
theorem dX11_rule_12 : decode cX11_rule 12 = .ok (.iload_n 2, 1) := by decide +kernel
theorem dX11_rule_13 : decode cX11_rule 13 = .ok (.iconst 0, 1) := by decide +kernel
theorem dX11_rule_14 : decode cX11_rule 14 = .ok (.bipush 11, 2) := by decide +kernel
theorem dX11_rule_16 : decode cX11_rule 16 = .ok (.invokestatic 25, 3) := by decide +kernel
theorem dX11_rule_19 : decode cX11_rule 19 = .ok (.ifCond .eq 18, 3) := by decide +kernel
theorem dX11_rule_22 : decode cX11_rule 22 = .ok (.aload_n 0, 1) := by decide +kernel
theorem dX11_rule_23 : decode cX11_rule 23 = .ok (.getfield 7, 3) := by decide +kernel
theorem dX11_rule_26 : decode cX11_rule 26 = .ok (.iconst 0, 1) := by decide +kernel
theorem dX11_rule_27 : decode cX11_rule 27 = .ok (.iload_n 1, 1) := by decide +kernel
theorem dX11_rule_28 : decode cX11_rule 28 = .ok (.invokestatic 40, 3) := by decide +kernel
theorem dX11_rule_31 : decode cX11_rule 31 = .ok (.iload_n 2, 1) := by decide +kernel
theorem dX11_rule_32 : decode cX11_rule 32 = .ok (.iadd, 1) := by decide +kernel
theorem dX11_rule_33 : decode cX11_rule 33 = .ok (.iaload, 1) := by decide +kernel
theorem dX11_rule_34 : decode cX11_rule 34 = .ok (.goto 6, 3) := by decide +kernel
theorem dX11_rule_37 : decode cX11_rule 37 = .ok (.sipush (-1002), 3) := by decide +kernel
theorem dX11_rule_40 : decode cX11_rule 40 = .ok (.ireturn, 1) := by decide +kernel
theorem dX11_order_0 : decode cX11_order 0 = .ok (.iload_n 1, 1) := by decide +kernel
theorem dX11_order_1 : decode cX11_order 1 = .ok (.iconst 0, 1) := by decide +kernel
theorem dX11_order_2 : decode cX11_order 2 = .ok (.iconst 2, 1) := by decide +kernel
theorem dX11_order_3 : decode cX11_order 3 = .ok (.invokestatic 25, 3) := by decide +kernel
theorem dX11_order_6 : decode cX11_order 6 = .ok (.ifCond .eq 20, 3) := by decide +kernel
theorem dX11_order_9 : decode cX11_order 9 = .ok (.iload_n 2, 1) := by decide +kernel
theorem dX11_order_10 : decode cX11_order 10 = .ok (.iconst 0, 1) := by decide +kernel
theorem dX11_order_11 : decode cX11_order 11 = .ok (.iconst 1, 1) := by decide +kernel
theorem dX11_order_12 : decode cX11_order 12 = .ok (.invokestatic 25, 3) := by decide +kernel
theorem dX11_order_15 : decode cX11_order 15 = .ok (.ifCond .eq 11, 3) := by decide +kernel
theorem dX11_order_18 : decode cX11_order 18 = .ok (.iload_n 3, 1) := by decide +kernel
theorem dX11_order_19 : decode cX11_order 19 = .ok (.ifCond .lt 7, 3) := by decide +kernel
theorem dX11_order_22 : decode cX11_order 22 = .ok (.iconst 1, 1) := by decide +kernel
theorem dX11_order_23 : decode cX11_order 23 = .ok (.goto 4, 3) := by decide +kernel
theorem dX11_order_26 : decode cX11_order 26 = .ok (.iconst 0, 1) := by decide +kernel
theorem dX11_order_27 : decode cX11_order 27 = .ok (.istore 4, 2) := by decide +kernel
theorem dX11_order_29 : decode cX11_order 29 = .ok (.iload 4, 2) := by decide +kernel
theorem dX11_order_31 : decode cX11_order 31 = .ok (.ifCond .eq 14, 3) := by decide +kernel
theorem dX11_order_34 : decode cX11_order 34 = .ok (.aload_n 0, 1) := by decide +kernel
theorem dX11_order_35 : decode cX11_order 35 = .ok (.iconst 0, 1) := by decide +kernel
theorem dX11_order_36 : decode cX11_order 36 = .ok (.iload_n 1, 1) := by decide +kernel
theorem dX11_order_37 : decode cX11_order 37 = .ok (.iload_n 2, 1) := by decide +kernel
theorem dX11_order_38 : decode cX11_order 38 = .ok (.iload_n 3, 1) := by decide +kernel
theorem dX11_order_39 : decode cX11_order 39 = .ok (.invokevirtual 104, 3) := by decide +kernel
theorem dX11_order_42 : decode cX11_order 42 = .ok (.goto 6, 3) := by decide +kernel
theorem dX11_order_45 : decode cX11_order 45 = .ok (.sipush (-1002), 3) := by decide +kernel
theorem dX11_order_48 : decode cX11_order 48 = .ok (.ireturn, 1) := by decide +kernel
theorem dX11_firing_0 : decode cX11_firing 0 = .ok (.iload_n 1, 1) := by decide +kernel
theorem dX11_firing_1 : decode cX11_firing 1 = .ok (.ifCond .lt 12, 3) := by decide +kernel
theorem dX11_firing_4 : decode cX11_firing 4 = .ok (.iload_n 2, 1) := by decide +kernel
theorem dX11_firing_5 : decode cX11_firing 5 = .ok (.iconst 0, 1) := by decide +kernel
theorem dX11_firing_6 : decode cX11_firing 6 = .ok (.iconst 2, 1) := by decide +kernel
theorem dX11_firing_7 : decode cX11_firing 7 = .ok (.invokestatic 25, 3) := by decide +kernel
theorem dX11_firing_10 : decode cX11_firing 10 = .ok (.ifCond .ne 7, 3) := by decide +kernel
theorem dX11_firing_13 : decode cX11_firing 13 = .ok (.sipush (-1002), 3) := by decide +kernel
theorem dX11_firing_16 : decode cX11_firing 16 = .ok (.ireturn, 1) := by decide +kernel
theorem dX11_firing_17 : decode cX11_firing 17 = .ok (.iload_n 1, 1) := by decide +kernel
theorem dX11_firing_18 : decode cX11_firing 18 = .ok (.aload_n 0, 1) := by decide +kernel
theorem dX11_firing_19 : decode cX11_firing 19 = .ok (.getfield 7, 3) := by decide +kernel
theorem dX11_firing_22 : decode cX11_firing 22 = .ok (.sipush 232, 3) := by decide +kernel
theorem dX11_firing_25 : decode cX11_firing 25 = .ok (.iaload, 1) := by decide +kernel
theorem dX11_firing_26 : decode cX11_firing 26 = .ok (.if_icmp .ge 20, 3) := by decide +kernel
theorem dX11_firing_29 : decode cX11_firing 29 = .ok (.aload_n 0, 1) := by decide +kernel
theorem dX11_firing_30 : decode cX11_firing 30 = .ok (.getfield 7, 3) := by decide +kernel
theorem dX11_firing_33 : decode cX11_firing 33 = .ok (.sipush 233, 3) := by decide +kernel
theorem dX11_firing_36 : decode cX11_firing 36 = .ok (.iconst 3, 1) := by decide +kernel
theorem dX11_firing_37 : decode cX11_firing 37 = .ok (.iload_n 1, 1) := by decide +kernel
theorem dX11_firing_38 : decode cX11_firing 38 = .ok (.imul, 1) := by decide +kernel
theorem dX11_firing_39 : decode cX11_firing 39 = .ok (.iadd, 1) := by decide +kernel
theorem dX11_firing_40 : decode cX11_firing 40 = .ok (.iload_n 2, 1) := by decide +kernel
theorem dX11_firing_41 : decode cX11_firing 41 = .ok (.iadd, 1) := by decide +kernel
theorem dX11_firing_42 : decode cX11_firing 42 = .ok (.iaload, 1) := by decide +kernel
theorem dX11_firing_43 : decode cX11_firing 43 = .ok (.goto 6, 3) := by decide +kernel
theorem dX11_firing_46 : decode cX11_firing 46 = .ok (.sipush (-1006), 3) := by decide +kernel
theorem dX11_firing_49 : decode cX11_firing 49 = .ok (.ireturn, 1) := by decide +kernel
theorem dX11_total_0 : decode cX11_total 0 = .ok (.iload_n 1, 1) := by decide +kernel
theorem dX11_total_1 : decode cX11_total 1 = .ok (.tableswitch 119 0 11 #[63, 70, 78, 83, 83, 96, 96, 96, 96, 96, 109, 114], 63) := by decide +kernel
theorem dX11_total_64 : decode cX11_total 64 = .ok (.aload_n 0, 1) := by decide +kernel
theorem dX11_total_65 : decode cX11_total 65 = .ok (.getfield 7, 3) := by decide +kernel
theorem dX11_total_68 : decode cX11_total 68 = .ok (.iconst 0, 1) := by decide +kernel
theorem dX11_total_69 : decode cX11_total 69 = .ok (.iaload, 1) := by decide +kernel
theorem dX11_total_70 : decode cX11_total 70 = .ok (.ireturn, 1) := by decide +kernel
theorem dX11_total_71 : decode cX11_total 71 = .ok (.aload_n 0, 1) := by decide +kernel
theorem dX11_total_72 : decode cX11_total 72 = .ok (.getfield 7, 3) := by decide +kernel
theorem dX11_total_75 : decode cX11_total 75 = .ok (.bipush 81, 2) := by decide +kernel
theorem dX11_total_77 : decode cX11_total 77 = .ok (.iaload, 1) := by decide +kernel
theorem dX11_total_78 : decode cX11_total 78 = .ok (.ireturn, 1) := by decide +kernel
theorem dX11_total_79 : decode cX11_total 79 = .ok (.aload_n 0, 1) := by decide +kernel
theorem dX11_total_80 : decode cX11_total 80 = .ok (.invokevirtual 158, 3) := by decide +kernel
theorem dX11_total_83 : decode cX11_total 83 = .ok (.ireturn, 1) := by decide +kernel
theorem dX11_total_84 : decode cX11_total 84 = .ok (.aload_n 0, 1) := by decide +kernel
theorem dX11_total_85 : decode cX11_total 85 = .ok (.getfield 7, 3) := by decide +kernel
theorem dX11_total_88 : decode cX11_total 88 = .ok (.sipush 226, 3) := by decide +kernel
theorem dX11_total_91 : decode cX11_total 91 = .ok (.iload_n 1, 1) := by decide +kernel
theorem dX11_total_92 : decode cX11_total 92 = .ok (.iadd, 1) := by decide +kernel
theorem dX11_total_93 : decode cX11_total 93 = .ok (.iconst 3, 1) := by decide +kernel
theorem dX11_total_94 : decode cX11_total 94 = .ok (.isub, 1) := by decide +kernel
theorem dX11_total_95 : decode cX11_total 95 = .ok (.iaload, 1) := by decide +kernel
theorem dX11_total_96 : decode cX11_total 96 = .ok (.ireturn, 1) := by decide +kernel
theorem dX11_total_97 : decode cX11_total 97 = .ok (.aload_n 0, 1) := by decide +kernel
theorem dX11_total_98 : decode cX11_total 98 = .ok (.getfield 7, 3) := by decide +kernel
theorem dX11_total_101 : decode cX11_total 101 = .ok (.sipush 228, 3) := by decide +kernel
theorem dX11_total_104 : decode cX11_total 104 = .ok (.iload_n 1, 1) := by decide +kernel
theorem dX11_total_105 : decode cX11_total 105 = .ok (.iadd, 1) := by decide +kernel
theorem dX11_total_106 : decode cX11_total 106 = .ok (.iconst 5, 1) := by decide +kernel
theorem dX11_total_107 : decode cX11_total 107 = .ok (.isub, 1) := by decide +kernel
theorem dX11_total_108 : decode cX11_total 108 = .ok (.iaload, 1) := by decide +kernel
theorem dX11_total_109 : decode cX11_total 109 = .ok (.ireturn, 1) := by decide +kernel
theorem dX11_total_110 : decode cX11_total 110 = .ok (.aload_n 0, 1) := by decide +kernel
theorem dX11_total_111 : decode cX11_total 111 = .ok (.getfield 29, 3) := by decide +kernel
theorem dX11_total_114 : decode cX11_total 114 = .ok (.ireturn, 1) := by decide +kernel
theorem dX11_total_115 : decode cX11_total 115 = .ok (.aload_n 0, 1) := by decide +kernel
theorem dX11_total_116 : decode cX11_total 116 = .ok (.getfield 161, 3) := by decide +kernel
theorem dX11_total_119 : decode cX11_total 119 = .ok (.ireturn, 1) := by decide +kernel
theorem dX11_total_120 : decode cX11_total 120 = .ok (.sipush (-1002), 3) := by decide +kernel
theorem dX11_total_123 : decode cX11_total 123 = .ok (.ireturn, 1) := by decide +kernel
theorem dX11_told_0 : decode cX11_told 0 = .ok (.iload_n 1, 1) := by decide +kernel
theorem dX11_told_1 : decode cX11_told 1 = .ok (.ifCond .ne 10, 3) := by decide +kernel
theorem dX11_told_4 : decode cX11_told 4 = .ok (.aload_n 0, 1) := by decide +kernel
theorem dX11_told_5 : decode cX11_told 5 = .ok (.getfield 48, 3) := by decide +kernel
theorem dX11_told_8 : decode cX11_told 8 = .ok (.goto 43, 3) := by decide +kernel
theorem dX11_told_11 : decode cX11_told 11 = .ok (.iload_n 1, 1) := by decide +kernel
theorem dX11_told_12 : decode cX11_told 12 = .ok (.iconst 1, 1) := by decide +kernel
theorem dX11_told_13 : decode cX11_told 13 = .ok (.if_icmp .ne 10, 3) := by decide +kernel
theorem dX11_told_16 : decode cX11_told 16 = .ok (.aload_n 0, 1) := by decide +kernel
theorem dX11_told_17 : decode cX11_told 17 = .ok (.getfield 51, 3) := by decide +kernel
theorem dX11_told_20 : decode cX11_told 20 = .ok (.goto 31, 3) := by decide +kernel
theorem dX11_told_23 : decode cX11_told 23 = .ok (.iload_n 1, 1) := by decide +kernel
theorem dX11_told_24 : decode cX11_told 24 = .ok (.iconst 2, 1) := by decide +kernel
theorem dX11_told_25 : decode cX11_told 25 = .ok (.if_icmp .ne 10, 3) := by decide +kernel
theorem dX11_told_28 : decode cX11_told 28 = .ok (.aload_n 0, 1) := by decide +kernel
theorem dX11_told_29 : decode cX11_told 29 = .ok (.getfield 64, 3) := by decide +kernel
theorem dX11_told_32 : decode cX11_told 32 = .ok (.goto 19, 3) := by decide +kernel
theorem dX11_told_35 : decode cX11_told 35 = .ok (.iload_n 1, 1) := by decide +kernel
theorem dX11_told_36 : decode cX11_told 36 = .ok (.iconst 3, 1) := by decide +kernel
theorem dX11_told_37 : decode cX11_told 37 = .ok (.if_icmp .ne 10, 3) := by decide +kernel
theorem dX11_told_40 : decode cX11_told 40 = .ok (.aload_n 0, 1) := by decide +kernel
theorem dX11_told_41 : decode cX11_told 41 = .ok (.getfield 83, 3) := by decide +kernel
theorem dX11_told_44 : decode cX11_told 44 = .ok (.goto 7, 3) := by decide +kernel
theorem dX11_told_47 : decode cX11_told 47 = .ok (.aload_n 0, 1) := by decide +kernel
theorem dX11_told_48 : decode cX11_told 48 = .ok (.getfield 70, 3) := by decide +kernel
theorem dX11_told_51 : decode cX11_told 51 = .ok (.ireturn, 1) := by decide +kernel
theorem dX11_ifInserted_0 : decode cX11_ifInserted 0 = .ok (.aload_n 0, 1) := by decide +kernel
theorem dX11_ifInserted_1 : decode cX11_ifInserted 1 = .ok (.iload_n 1, 1) := by decide +kernel
theorem dX11_ifInserted_2 : decode cX11_ifInserted 2 = .ok (.iload_n 2, 1) := by decide +kernel
theorem dX11_ifInserted_3 : decode cX11_ifInserted 3 = .ok (.iload_n 3, 1) := by decide +kernel
theorem dX11_ifInserted_4 : decode cX11_ifInserted 4 = .ok (.iload 4, 2) := by decide +kernel
theorem dX11_ifInserted_6 : decode cX11_ifInserted 6 = .ok (.invokevirtual 135, 3) := by decide +kernel
theorem dX11_ifInserted_9 : decode cX11_ifInserted 9 = .ok (.istore 6, 2) := by decide +kernel
theorem dX11_ifInserted_11 : decode cX11_ifInserted 11 = .ok (.iload 6, 2) := by decide +kernel
theorem dX11_ifInserted_13 : decode cX11_ifInserted 13 = .ok (.ifCond .eq 6, 3) := by decide +kernel
theorem dX11_ifInserted_16 : decode cX11_ifInserted 16 = .ok (.iload 6, 2) := by decide +kernel
theorem dX11_ifInserted_18 : decode cX11_ifInserted 18 = .ok (.ireturn, 1) := by decide +kernel
theorem dX11_ifInserted_19 : decode cX11_ifInserted 19 = .ok (.iload 5, 2) := by decide +kernel
theorem dX11_ifInserted_21 : decode cX11_ifInserted 21 = .ok (.iconst 0, 1) := by decide +kernel
theorem dX11_ifInserted_22 : decode cX11_ifInserted 22 = .ok (.iconst 4, 1) := by decide +kernel
theorem dX11_ifInserted_23 : decode cX11_ifInserted 23 = .ok (.invokestatic 25, 3) := by decide +kernel
theorem dX11_ifInserted_26 : decode cX11_ifInserted 26 = .ok (.ifCond .ne 7, 3) := by decide +kernel
theorem dX11_ifInserted_29 : decode cX11_ifInserted 29 = .ok (.sipush (-1002), 3) := by decide +kernel
theorem dX11_ifInserted_32 : decode cX11_ifInserted 32 = .ok (.ireturn, 1) := by decide +kernel
theorem dX11_ifInserted_33 : decode cX11_ifInserted 33 = .ok (.aload_n 0, 1) := by decide +kernel
theorem dX11_ifInserted_34 : decode cX11_ifInserted 34 = .ok (.iconst 0, 1) := by decide +kernel
theorem dX11_ifInserted_35 : decode cX11_ifInserted 35 = .ok (.sipush 413, 3) := by decide +kernel
theorem dX11_ifInserted_38 : decode cX11_ifInserted 38 = .ok (.invokevirtual 36, 3) := by decide +kernel
theorem dX11_ifInserted_41 : decode cX11_ifInserted 41 = .ok (.aload_n 0, 1) := by decide +kernel
theorem dX11_ifInserted_42 : decode cX11_ifInserted 42 = .ok (.sipush 413, 3) := by decide +kernel
theorem dX11_ifInserted_45 : decode cX11_ifInserted 45 = .ok (.iload_n 1, 1) := by decide +kernel
theorem dX11_ifInserted_46 : decode cX11_ifInserted 46 = .ok (.iload_n 2, 1) := by decide +kernel
theorem dX11_ifInserted_47 : decode cX11_ifInserted 47 = .ok (.iload_n 3, 1) := by decide +kernel
theorem dX11_ifInserted_48 : decode cX11_ifInserted 48 = .ok (.iload 4, 2) := by decide +kernel
theorem dX11_ifInserted_50 : decode cX11_ifInserted 50 = .ok (.invokevirtual 138, 3) := by decide +kernel
theorem dX11_ifInserted_53 : decode cX11_ifInserted 53 = .ok (.aload_n 0, 1) := by decide +kernel
theorem dX11_ifInserted_54 : decode cX11_ifInserted 54 = .ok (.iload 5, 2) := by decide +kernel
theorem dX11_ifInserted_56 : decode cX11_ifInserted 56 = .ok (.invokevirtual 205, 3) := by decide +kernel
theorem dX11_ifInserted_59 : decode cX11_ifInserted 59 = .ok (.ireturn, 1) := by decide +kernel
theorem dX11_ifUpdated_0 : decode cX11_ifUpdated 0 = .ok (.aload_n 0, 1) := by decide +kernel
theorem dX11_ifUpdated_1 : decode cX11_ifUpdated 1 = .ok (.iload_n 1, 1) := by decide +kernel
theorem dX11_ifUpdated_2 : decode cX11_ifUpdated 2 = .ok (.iload_n 2, 1) := by decide +kernel
theorem dX11_ifUpdated_3 : decode cX11_ifUpdated 3 = .ok (.iload_n 3, 1) := by decide +kernel
theorem dX11_ifUpdated_4 : decode cX11_ifUpdated 4 = .ok (.invokevirtual 146, 3) := by decide +kernel
theorem dX11_ifUpdated_7 : decode cX11_ifUpdated 7 = .ok (.istore 5, 2) := by decide +kernel
theorem dX11_ifUpdated_9 : decode cX11_ifUpdated 9 = .ok (.iload 5, 2) := by decide +kernel
theorem dX11_ifUpdated_11 : decode cX11_ifUpdated 11 = .ok (.ifCond .eq 14, 3) := by decide +kernel
theorem dX11_ifUpdated_14 : decode cX11_ifUpdated 14 = .ok (.iload 5, 2) := by decide +kernel
theorem dX11_ifUpdated_16 : decode cX11_ifUpdated 16 = .ok (.sipush (-1006), 3) := by decide +kernel
theorem dX11_ifUpdated_19 : decode cX11_ifUpdated 19 = .ok (.if_icmp .eq 6, 3) := by decide +kernel
theorem dX11_ifUpdated_22 : decode cX11_ifUpdated 22 = .ok (.iload 5, 2) := by decide +kernel
theorem dX11_ifUpdated_24 : decode cX11_ifUpdated 24 = .ok (.ireturn, 1) := by decide +kernel
theorem dX11_ifUpdated_25 : decode cX11_ifUpdated 25 = .ok (.iload 4, 2) := by decide +kernel
theorem dX11_ifUpdated_27 : decode cX11_ifUpdated 27 = .ok (.iconst 0, 1) := by decide +kernel
theorem dX11_ifUpdated_28 : decode cX11_ifUpdated 28 = .ok (.iconst 4, 1) := by decide +kernel
theorem dX11_ifUpdated_29 : decode cX11_ifUpdated 29 = .ok (.invokestatic 25, 3) := by decide +kernel
theorem dX11_ifUpdated_32 : decode cX11_ifUpdated 32 = .ok (.ifCond .eq 11, 3) := by decide +kernel
theorem dX11_ifUpdated_35 : decode cX11_ifUpdated 35 = .ok (.iload 5, 2) := by decide +kernel
theorem dX11_ifUpdated_37 : decode cX11_ifUpdated 37 = .ok (.sipush (-1006), 3) := by decide +kernel
theorem dX11_ifUpdated_40 : decode cX11_ifUpdated 40 = .ok (.if_icmp .ne 23, 3) := by decide +kernel
theorem dX11_ifUpdated_43 : decode cX11_ifUpdated 43 = .ok (.iload 4, 2) := by decide +kernel
theorem dX11_ifUpdated_45 : decode cX11_ifUpdated 45 = .ok (.iconst 0, 1) := by decide +kernel
theorem dX11_ifUpdated_46 : decode cX11_ifUpdated 46 = .ok (.iconst 4, 1) := by decide +kernel
theorem dX11_ifUpdated_47 : decode cX11_ifUpdated 47 = .ok (.invokestatic 25, 3) := by decide +kernel
theorem dX11_ifUpdated_50 : decode cX11_ifUpdated 50 = .ok (.ifCond .eq 9, 3) := by decide +kernel
theorem dX11_ifUpdated_53 : decode cX11_ifUpdated 53 = .ok (.sipush (-1006), 3) := by decide +kernel
theorem dX11_ifUpdated_56 : decode cX11_ifUpdated 56 = .ok (.goto 6, 3) := by decide +kernel
theorem dX11_ifUpdated_59 : decode cX11_ifUpdated 59 = .ok (.sipush (-1002), 3) := by decide +kernel
theorem dX11_ifUpdated_62 : decode cX11_ifUpdated 62 = .ok (.ireturn, 1) := by decide +kernel
theorem dX11_ifUpdated_63 : decode cX11_ifUpdated 63 = .ok (.aload_n 0, 1) := by decide +kernel
theorem dX11_ifUpdated_64 : decode cX11_ifUpdated 64 = .ok (.iconst 0, 1) := by decide +kernel
theorem dX11_ifUpdated_65 : decode cX11_ifUpdated 65 = .ok (.sipush 413, 3) := by decide +kernel
theorem dX11_ifUpdated_68 : decode cX11_ifUpdated 68 = .ok (.invokevirtual 36, 3) := by decide +kernel
theorem dX11_ifUpdated_71 : decode cX11_ifUpdated 71 = .ok (.aload_n 0, 1) := by decide +kernel
theorem dX11_ifUpdated_72 : decode cX11_ifUpdated 72 = .ok (.sipush 413, 3) := by decide +kernel
theorem dX11_ifUpdated_75 : decode cX11_ifUpdated 75 = .ok (.iload_n 1, 1) := by decide +kernel
theorem dX11_ifUpdated_76 : decode cX11_ifUpdated 76 = .ok (.iload_n 2, 1) := by decide +kernel
theorem dX11_ifUpdated_77 : decode cX11_ifUpdated 77 = .ok (.iload_n 3, 1) := by decide +kernel
theorem dX11_ifUpdated_78 : decode cX11_ifUpdated 78 = .ok (.invokevirtual 149, 3) := by decide +kernel
theorem dX11_ifUpdated_81 : decode cX11_ifUpdated 81 = .ok (.aload_n 0, 1) := by decide +kernel
theorem dX11_ifUpdated_82 : decode cX11_ifUpdated 82 = .ok (.iload 4, 2) := by decide +kernel
theorem dX11_ifUpdated_84 : decode cX11_ifUpdated 84 = .ok (.invokevirtual 205, 3) := by decide +kernel
theorem dX11_ifUpdated_87 : decode cX11_ifUpdated 87 = .ok (.ireturn, 1) := by decide +kernel
theorem dX11_ifDeleted_0 : decode cX11_ifDeleted 0 = .ok (.aload_n 0, 1) := by decide +kernel
theorem dX11_ifDeleted_1 : decode cX11_ifDeleted 1 = .ok (.iconst 0, 1) := by decide +kernel
theorem dX11_ifDeleted_2 : decode cX11_ifDeleted 2 = .ok (.iload_n 1, 1) := by decide +kernel
theorem dX11_ifDeleted_3 : decode cX11_ifDeleted 3 = .ok (.invokevirtual 54, 3) := by decide +kernel
theorem dX11_ifDeleted_6 : decode cX11_ifDeleted 6 = .ok (.ifCond .ge 7, 3) := by decide +kernel
theorem dX11_ifDeleted_9 : decode cX11_ifDeleted 9 = .ok (.sipush (-1001), 3) := by decide +kernel
theorem dX11_ifDeleted_12 : decode cX11_ifDeleted 12 = .ok (.ireturn, 1) := by decide +kernel
theorem dX11_ifDeleted_13 : decode cX11_ifDeleted 13 = .ok (.iload_n 2, 1) := by decide +kernel
theorem dX11_ifDeleted_14 : decode cX11_ifDeleted 14 = .ok (.iconst 0, 1) := by decide +kernel
theorem dX11_ifDeleted_15 : decode cX11_ifDeleted 15 = .ok (.iconst 4, 1) := by decide +kernel
theorem dX11_ifDeleted_16 : decode cX11_ifDeleted 16 = .ok (.invokestatic 25, 3) := by decide +kernel
theorem dX11_ifDeleted_19 : decode cX11_ifDeleted 19 = .ok (.ifCond .ne 7, 3) := by decide +kernel
theorem dX11_ifDeleted_22 : decode cX11_ifDeleted 22 = .ok (.sipush (-1002), 3) := by decide +kernel
theorem dX11_ifDeleted_25 : decode cX11_ifDeleted 25 = .ok (.ireturn, 1) := by decide +kernel
theorem dX11_ifDeleted_26 : decode cX11_ifDeleted 26 = .ok (.aload_n 0, 1) := by decide +kernel
theorem dX11_ifDeleted_27 : decode cX11_ifDeleted 27 = .ok (.iconst 0, 1) := by decide +kernel
theorem dX11_ifDeleted_28 : decode cX11_ifDeleted 28 = .ok (.sipush 413, 3) := by decide +kernel
theorem dX11_ifDeleted_31 : decode cX11_ifDeleted 31 = .ok (.invokevirtual 36, 3) := by decide +kernel
theorem dX11_ifDeleted_34 : decode cX11_ifDeleted 34 = .ok (.aload_n 0, 1) := by decide +kernel
theorem dX11_ifDeleted_35 : decode cX11_ifDeleted 35 = .ok (.sipush 413, 3) := by decide +kernel
theorem dX11_ifDeleted_38 : decode cX11_ifDeleted 38 = .ok (.iload_n 1, 1) := by decide +kernel
theorem dX11_ifDeleted_39 : decode cX11_ifDeleted 39 = .ok (.invokevirtual 152, 3) := by decide +kernel
theorem dX11_ifDeleted_42 : decode cX11_ifDeleted 42 = .ok (.aload_n 0, 1) := by decide +kernel
theorem dX11_ifDeleted_43 : decode cX11_ifDeleted 43 = .ok (.iload_n 2, 1) := by decide +kernel
theorem dX11_ifDeleted_44 : decode cX11_ifDeleted 44 = .ok (.invokevirtual 205, 3) := by decide +kernel
theorem dX11_ifDeleted_47 : decode cX11_ifDeleted 47 = .ok (.ireturn, 1) := by decide +kernel
theorem dX11_depthFor_0 : decode cX11_depthFor 0 = .ok (.aload_n 0, 1) := by decide +kernel
theorem dX11_depthFor_1 : decode cX11_depthFor 1 = .ok (.iload_n 1, 1) := by decide +kernel
theorem dX11_depthFor_2 : decode cX11_depthFor 2 = .ok (.iload_n 2, 1) := by decide +kernel
theorem dX11_depthFor_3 : decode cX11_depthFor 3 = .ok (.iload_n 3, 1) := by decide +kernel
theorem dX11_depthFor_4 : decode cX11_depthFor 4 = .ok (.invokevirtual 146, 3) := by decide +kernel
theorem dX11_depthFor_7 : decode cX11_depthFor 7 = .ok (.istore 4, 2) := by decide +kernel
theorem dX11_depthFor_9 : decode cX11_depthFor 9 = .ok (.iconst 1, 1) := by decide +kernel
theorem dX11_depthFor_10 : decode cX11_depthFor 10 = .ok (.istore 5, 2) := by decide +kernel
theorem dX11_depthFor_12 : decode cX11_depthFor 12 = .ok (.iload 5, 2) := by decide +kernel
theorem dX11_depthFor_14 : decode cX11_depthFor 14 = .ok (.bipush 9, 2) := by decide +kernel
theorem dX11_depthFor_16 : decode cX11_depthFor 16 = .ok (.if_icmp .ge 52, 3) := by decide +kernel
theorem dX11_depthFor_19 : decode cX11_depthFor 19 = .ok (.iload 4, 2) := by decide +kernel
theorem dX11_depthFor_21 : decode cX11_depthFor 21 = .ok (.ifCond .ne 47, 3) := by decide +kernel
theorem dX11_depthFor_24 : decode cX11_depthFor 24 = .ok (.aload_n 0, 1) := by decide +kernel
theorem dX11_depthFor_25 : decode cX11_depthFor 25 = .ok (.iconst 0, 1) := by decide +kernel
theorem dX11_depthFor_26 : decode cX11_depthFor 26 = .ok (.sipush 413, 3) := by decide +kernel
theorem dX11_depthFor_29 : decode cX11_depthFor 29 = .ok (.invokevirtual 36, 3) := by decide +kernel
theorem dX11_depthFor_32 : decode cX11_depthFor 32 = .ok (.aload_n 0, 1) := by decide +kernel
theorem dX11_depthFor_33 : decode cX11_depthFor 33 = .ok (.getfield 7, 3) := by decide +kernel
theorem dX11_depthFor_36 : decode cX11_depthFor 36 = .ok (.sipush 639, 3) := by decide +kernel
theorem dX11_depthFor_39 : decode cX11_depthFor 39 = .ok (.iload 5, 2) := by decide +kernel
theorem dX11_depthFor_41 : decode cX11_depthFor 41 = .ok (.iastore, 1) := by decide +kernel
theorem dX11_depthFor_42 : decode cX11_depthFor 42 = .ok (.aload_n 0, 1) := by decide +kernel
theorem dX11_depthFor_43 : decode cX11_depthFor 43 = .ok (.sipush 413, 3) := by decide +kernel
theorem dX11_depthFor_46 : decode cX11_depthFor 46 = .ok (.iload_n 1, 1) := by decide +kernel
theorem dX11_depthFor_47 : decode cX11_depthFor 47 = .ok (.iload_n 2, 1) := by decide +kernel
theorem dX11_depthFor_48 : decode cX11_depthFor 48 = .ok (.iload_n 3, 1) := by decide +kernel
theorem dX11_depthFor_49 : decode cX11_depthFor 49 = .ok (.invokevirtual 149, 3) := by decide +kernel
theorem dX11_depthFor_52 : decode cX11_depthFor 52 = .ok (.aload_n 0, 1) := by decide +kernel
theorem dX11_depthFor_53 : decode cX11_depthFor 53 = .ok (.getfield 48, 3) := by decide +kernel
theorem dX11_depthFor_56 : decode cX11_depthFor 56 = .ok (.ifCond .ne 6, 3) := by decide +kernel
theorem dX11_depthFor_59 : decode cX11_depthFor 59 = .ok (.iload 5, 2) := by decide +kernel
theorem dX11_depthFor_61 : decode cX11_depthFor 61 = .ok (.ireturn, 1) := by decide +kernel
theorem dX11_depthFor_62 : decode cX11_depthFor 62 = .ok (.iinc 5 1, 3) := by decide +kernel
theorem dX11_depthFor_65 : decode cX11_depthFor 65 = .ok (.goto (-53), 3) := by decide +kernel
theorem dX11_depthFor_68 : decode cX11_depthFor 68 = .ok (.iload 4, 2) := by decide +kernel
theorem dX11_depthFor_70 : decode cX11_depthFor 70 = .ok (.ifCond .ne 9, 3) := by decide +kernel
theorem dX11_depthFor_73 : decode cX11_depthFor 73 = .ok (.sipush (-1006), 3) := by decide +kernel
theorem dX11_depthFor_76 : decode cX11_depthFor 76 = .ok (.goto 5, 3) := by decide +kernel
theorem dX11_depthFor_79 : decode cX11_depthFor 79 = .ok (.iload 4, 2) := by decide +kernel
theorem dX11_depthFor_81 : decode cX11_depthFor 81 = .ok (.ireturn, 1) := by decide +kernel
theorem dL_law_0 : decode cL_law 0 = .ok (.new 7, 3) := by decide +kernel
theorem dL_law_3 : decode cL_law 3 = .ok (.dup, 1) := by decide +kernel
theorem dL_law_4 : decode cL_law 4 = .ok (.invokespecial 9, 3) := by decide +kernel
theorem dL_law_7 : decode cL_law 7 = .ok (.astore_n 1, 1) := by decide +kernel
theorem dL_law_8 : decode cL_law 8 = .ok (.new 10, 3) := by decide +kernel
theorem dL_law_11 : decode cL_law 11 = .ok (.dup, 1) := by decide +kernel
theorem dL_law_12 : decode cL_law 12 = .ok (.invokespecial 12, 3) := by decide +kernel
theorem dL_law_15 : decode cL_law 15 = .ok (.astore_n 2, 1) := by decide +kernel
theorem dL_law_16 : decode cL_law 16 = .ok (.iconst 0, 1) := by decide +kernel
theorem dL_law_17 : decode cL_law 17 = .ok (.istore_n 3, 1) := by decide +kernel
theorem dL_law_18 : decode cL_law 18 = .ok (.iload_n 3, 1) := by decide +kernel
theorem dL_law_19 : decode cL_law 19 = .ok (.aload_n 0, 1) := by decide +kernel
theorem dL_law_20 : decode cL_law 20 = .ok (.arraylength, 1) := by decide +kernel
theorem dL_law_21 : decode cL_law 21 = .ok (.bipush 8, 2) := by decide +kernel
theorem dL_law_23 : decode cL_law 23 = .ok (.isub, 1) := by decide +kernel
theorem dL_law_24 : decode cL_law 24 = .ok (.if_icmp .gt 960, 3) := by decide +kernel
theorem dL_law_27 : decode cL_law 27 = .ok (.aload_n 0, 1) := by decide +kernel
theorem dL_law_28 : decode cL_law 28 = .ok (.iload_n 3, 1) := by decide +kernel
theorem dL_law_29 : decode cL_law 29 = .ok (.iaload, 1) := by decide +kernel
theorem dL_law_30 : decode cL_law 30 = .ok (.bipush 31, 2) := by decide +kernel
theorem dL_law_32 : decode cL_law 32 = .ok (.iand, 1) := by decide +kernel
theorem dL_law_33 : decode cL_law 33 = .ok (.tableswitch 945 0 23 #[111, 198, 251, 300, 323, 356, 409, 452, 475, 500, 513, 526, 539, 552, 565, 598, 621, 654, 697, 730, 753, 816, 869, 902], 111) := by decide +kernel
theorem dL_law_144 : decode cL_law 144 = .ok (.aload_n 1, 1) := by decide +kernel
theorem dL_law_145 : decode cL_law 145 = .ok (.aload_n 0, 1) := by decide +kernel
theorem dL_law_146 : decode cL_law 146 = .ok (.iload_n 3, 1) := by decide +kernel
theorem dL_law_147 : decode cL_law 147 = .ok (.iconst 1, 1) := by decide +kernel
theorem dL_law_148 : decode cL_law 148 = .ok (.iadd, 1) := by decide +kernel
theorem dL_law_149 : decode cL_law 149 = .ok (.iaload, 1) := by decide +kernel
theorem dL_law_150 : decode cL_law 150 = .ok (.aload_n 0, 1) := by decide +kernel
theorem dL_law_151 : decode cL_law 151 = .ok (.iload_n 3, 1) := by decide +kernel
theorem dL_law_152 : decode cL_law 152 = .ok (.iconst 2, 1) := by decide +kernel
theorem dL_law_153 : decode cL_law 153 = .ok (.iadd, 1) := by decide +kernel
theorem dL_law_154 : decode cL_law 154 = .ok (.iaload, 1) := by decide +kernel
theorem dL_law_155 : decode cL_law 155 = .ok (.aload_n 0, 1) := by decide +kernel
theorem dL_law_156 : decode cL_law 156 = .ok (.iload_n 3, 1) := by decide +kernel
theorem dL_law_157 : decode cL_law 157 = .ok (.iconst 3, 1) := by decide +kernel
theorem dL_law_158 : decode cL_law 158 = .ok (.iadd, 1) := by decide +kernel
theorem dL_law_159 : decode cL_law 159 = .ok (.iaload, 1) := by decide +kernel
theorem dL_law_160 : decode cL_law 160 = .ok (.aload_n 0, 1) := by decide +kernel
theorem dL_law_161 : decode cL_law 161 = .ok (.iload_n 3, 1) := by decide +kernel
theorem dL_law_162 : decode cL_law 162 = .ok (.iconst 4, 1) := by decide +kernel
theorem dL_law_163 : decode cL_law 163 = .ok (.iadd, 1) := by decide +kernel
theorem dL_law_164 : decode cL_law 164 = .ok (.iaload, 1) := by decide +kernel
theorem dL_law_165 : decode cL_law 165 = .ok (.aload_n 0, 1) := by decide +kernel
theorem dL_law_166 : decode cL_law 166 = .ok (.iload_n 3, 1) := by decide +kernel
theorem dL_law_167 : decode cL_law 167 = .ok (.iconst 5, 1) := by decide +kernel
theorem dL_law_168 : decode cL_law 168 = .ok (.iadd, 1) := by decide +kernel
theorem dL_law_169 : decode cL_law 169 = .ok (.iaload, 1) := by decide +kernel
theorem dL_law_170 : decode cL_law 170 = .ok (.aload_n 0, 1) := by decide +kernel
theorem dL_law_171 : decode cL_law 171 = .ok (.iload_n 3, 1) := by decide +kernel
theorem dL_law_172 : decode cL_law 172 = .ok (.bipush 6, 2) := by decide +kernel
theorem dL_law_174 : decode cL_law 174 = .ok (.iadd, 1) := by decide +kernel
theorem dL_law_175 : decode cL_law 175 = .ok (.iaload, 1) := by decide +kernel
theorem dL_law_176 : decode cL_law 176 = .ok (.aload_n 0, 1) := by decide +kernel
theorem dL_law_177 : decode cL_law 177 = .ok (.iload_n 3, 1) := by decide +kernel
theorem dL_law_178 : decode cL_law 178 = .ok (.bipush 7, 2) := by decide +kernel
theorem dL_law_180 : decode cL_law 180 = .ok (.iadd, 1) := by decide +kernel
theorem dL_law_181 : decode cL_law 181 = .ok (.iaload, 1) := by decide +kernel
theorem dL_law_182 : decode cL_law 182 = .ok (.invokevirtual 13, 3) := by decide +kernel
theorem dL_law_185 : decode cL_law 185 = .ok (.aload_n 2, 1) := by decide +kernel
theorem dL_law_186 : decode cL_law 186 = .ok (.aload_n 0, 1) := by decide +kernel
theorem dL_law_187 : decode cL_law 187 = .ok (.iload_n 3, 1) := by decide +kernel
theorem dL_law_188 : decode cL_law 188 = .ok (.iconst 1, 1) := by decide +kernel
theorem dL_law_189 : decode cL_law 189 = .ok (.iadd, 1) := by decide +kernel
theorem dL_law_190 : decode cL_law 190 = .ok (.iaload, 1) := by decide +kernel
theorem dL_law_191 : decode cL_law 191 = .ok (.aload_n 0, 1) := by decide +kernel
theorem dL_law_192 : decode cL_law 192 = .ok (.iload_n 3, 1) := by decide +kernel
theorem dL_law_193 : decode cL_law 193 = .ok (.iconst 2, 1) := by decide +kernel
theorem dL_law_194 : decode cL_law 194 = .ok (.iadd, 1) := by decide +kernel
theorem dL_law_195 : decode cL_law 195 = .ok (.iaload, 1) := by decide +kernel
theorem dL_law_196 : decode cL_law 196 = .ok (.aload_n 0, 1) := by decide +kernel
theorem dL_law_197 : decode cL_law 197 = .ok (.iload_n 3, 1) := by decide +kernel
theorem dL_law_198 : decode cL_law 198 = .ok (.iconst 3, 1) := by decide +kernel
theorem dL_law_199 : decode cL_law 199 = .ok (.iadd, 1) := by decide +kernel
theorem dL_law_200 : decode cL_law 200 = .ok (.iaload, 1) := by decide +kernel
theorem dL_law_201 : decode cL_law 201 = .ok (.aload_n 0, 1) := by decide +kernel
theorem dL_law_202 : decode cL_law 202 = .ok (.iload_n 3, 1) := by decide +kernel
theorem dL_law_203 : decode cL_law 203 = .ok (.iconst 4, 1) := by decide +kernel
theorem dL_law_204 : decode cL_law 204 = .ok (.iadd, 1) := by decide +kernel
theorem dL_law_205 : decode cL_law 205 = .ok (.iaload, 1) := by decide +kernel
theorem dL_law_206 : decode cL_law 206 = .ok (.aload_n 0, 1) := by decide +kernel
theorem dL_law_207 : decode cL_law 207 = .ok (.iload_n 3, 1) := by decide +kernel
theorem dL_law_208 : decode cL_law 208 = .ok (.iconst 5, 1) := by decide +kernel
theorem dL_law_209 : decode cL_law 209 = .ok (.iadd, 1) := by decide +kernel
theorem dL_law_210 : decode cL_law 210 = .ok (.iaload, 1) := by decide +kernel
theorem dL_law_211 : decode cL_law 211 = .ok (.aload_n 0, 1) := by decide +kernel
theorem dL_law_212 : decode cL_law 212 = .ok (.iload_n 3, 1) := by decide +kernel
theorem dL_law_213 : decode cL_law 213 = .ok (.bipush 6, 2) := by decide +kernel
theorem dL_law_215 : decode cL_law 215 = .ok (.iadd, 1) := by decide +kernel
theorem dL_law_216 : decode cL_law 216 = .ok (.iaload, 1) := by decide +kernel
theorem dL_law_217 : decode cL_law 217 = .ok (.aload_n 0, 1) := by decide +kernel
theorem dL_law_218 : decode cL_law 218 = .ok (.iload_n 3, 1) := by decide +kernel
theorem dL_law_219 : decode cL_law 219 = .ok (.bipush 7, 2) := by decide +kernel
theorem dL_law_221 : decode cL_law 221 = .ok (.iadd, 1) := by decide +kernel
theorem dL_law_222 : decode cL_law 222 = .ok (.iaload, 1) := by decide +kernel
theorem dL_law_223 : decode cL_law 223 = .ok (.invokevirtual 17, 3) := by decide +kernel
theorem dL_law_226 : decode cL_law 226 = .ok (.if_icmp .eq 752, 3) := by decide +kernel
theorem dL_law_229 : decode cL_law 229 = .ok (.iconst 0, 1) := by decide +kernel
theorem dL_law_230 : decode cL_law 230 = .ok (.ireturn, 1) := by decide +kernel
theorem dL_law_231 : decode cL_law 231 = .ok (.aload_n 1, 1) := by decide +kernel
theorem dL_law_232 : decode cL_law 232 = .ok (.aload_n 0, 1) := by decide +kernel
theorem dL_law_233 : decode cL_law 233 = .ok (.iload_n 3, 1) := by decide +kernel
theorem dL_law_234 : decode cL_law 234 = .ok (.iconst 1, 1) := by decide +kernel
theorem dL_law_235 : decode cL_law 235 = .ok (.iadd, 1) := by decide +kernel
theorem dL_law_236 : decode cL_law 236 = .ok (.iaload, 1) := by decide +kernel
theorem dL_law_237 : decode cL_law 237 = .ok (.aload_n 0, 1) := by decide +kernel
theorem dL_law_238 : decode cL_law 238 = .ok (.iload_n 3, 1) := by decide +kernel
theorem dL_law_239 : decode cL_law 239 = .ok (.iconst 2, 1) := by decide +kernel
theorem dL_law_240 : decode cL_law 240 = .ok (.iadd, 1) := by decide +kernel
theorem dL_law_241 : decode cL_law 241 = .ok (.iaload, 1) := by decide +kernel
theorem dL_law_242 : decode cL_law 242 = .ok (.aload_n 0, 1) := by decide +kernel
theorem dL_law_243 : decode cL_law 243 = .ok (.iload_n 3, 1) := by decide +kernel
theorem dL_law_244 : decode cL_law 244 = .ok (.iconst 3, 1) := by decide +kernel
theorem dL_law_245 : decode cL_law 245 = .ok (.iadd, 1) := by decide +kernel
theorem dL_law_246 : decode cL_law 246 = .ok (.iaload, 1) := by decide +kernel
theorem dL_law_247 : decode cL_law 247 = .ok (.aload_n 0, 1) := by decide +kernel
theorem dL_law_248 : decode cL_law 248 = .ok (.iload_n 3, 1) := by decide +kernel
theorem dL_law_249 : decode cL_law 249 = .ok (.iconst 4, 1) := by decide +kernel
theorem dL_law_250 : decode cL_law 250 = .ok (.iadd, 1) := by decide +kernel
theorem dL_law_251 : decode cL_law 251 = .ok (.iaload, 1) := by decide +kernel
theorem dL_law_252 : decode cL_law 252 = .ok (.invokevirtual 18, 3) := by decide +kernel
theorem dL_law_255 : decode cL_law 255 = .ok (.aload_n 2, 1) := by decide +kernel
theorem dL_law_256 : decode cL_law 256 = .ok (.aload_n 0, 1) := by decide +kernel
theorem dL_law_257 : decode cL_law 257 = .ok (.iload_n 3, 1) := by decide +kernel
theorem dL_law_258 : decode cL_law 258 = .ok (.iconst 1, 1) := by decide +kernel
theorem dL_law_259 : decode cL_law 259 = .ok (.iadd, 1) := by decide +kernel
theorem dL_law_260 : decode cL_law 260 = .ok (.iaload, 1) := by decide +kernel
theorem dL_law_261 : decode cL_law 261 = .ok (.aload_n 0, 1) := by decide +kernel
theorem dL_law_262 : decode cL_law 262 = .ok (.iload_n 3, 1) := by decide +kernel
theorem dL_law_263 : decode cL_law 263 = .ok (.iconst 2, 1) := by decide +kernel
theorem dL_law_264 : decode cL_law 264 = .ok (.iadd, 1) := by decide +kernel
theorem dL_law_265 : decode cL_law 265 = .ok (.iaload, 1) := by decide +kernel
theorem dL_law_266 : decode cL_law 266 = .ok (.aload_n 0, 1) := by decide +kernel
theorem dL_law_267 : decode cL_law 267 = .ok (.iload_n 3, 1) := by decide +kernel
theorem dL_law_268 : decode cL_law 268 = .ok (.iconst 3, 1) := by decide +kernel
theorem dL_law_269 : decode cL_law 269 = .ok (.iadd, 1) := by decide +kernel
theorem dL_law_270 : decode cL_law 270 = .ok (.iaload, 1) := by decide +kernel
theorem dL_law_271 : decode cL_law 271 = .ok (.aload_n 0, 1) := by decide +kernel
theorem dL_law_272 : decode cL_law 272 = .ok (.iload_n 3, 1) := by decide +kernel
theorem dL_law_273 : decode cL_law 273 = .ok (.iconst 4, 1) := by decide +kernel
theorem dL_law_274 : decode cL_law 274 = .ok (.iadd, 1) := by decide +kernel
theorem dL_law_275 : decode cL_law 275 = .ok (.iaload, 1) := by decide +kernel
theorem dL_law_276 : decode cL_law 276 = .ok (.invokevirtual 22, 3) := by decide +kernel
theorem dL_law_279 : decode cL_law 279 = .ok (.if_icmp .eq 699, 3) := by decide +kernel
theorem dL_law_282 : decode cL_law 282 = .ok (.iconst 0, 1) := by decide +kernel
theorem dL_law_283 : decode cL_law 283 = .ok (.ireturn, 1) := by decide +kernel
theorem dL_law_284 : decode cL_law 284 = .ok (.aload_n 1, 1) := by decide +kernel
theorem dL_law_285 : decode cL_law 285 = .ok (.aload_n 0, 1) := by decide +kernel
theorem dL_law_286 : decode cL_law 286 = .ok (.iload_n 3, 1) := by decide +kernel
theorem dL_law_287 : decode cL_law 287 = .ok (.iconst 1, 1) := by decide +kernel
theorem dL_law_288 : decode cL_law 288 = .ok (.iadd, 1) := by decide +kernel
theorem dL_law_289 : decode cL_law 289 = .ok (.iaload, 1) := by decide +kernel
theorem dL_law_290 : decode cL_law 290 = .ok (.aload_n 0, 1) := by decide +kernel
theorem dL_law_291 : decode cL_law 291 = .ok (.iload_n 3, 1) := by decide +kernel
theorem dL_law_292 : decode cL_law 292 = .ok (.iconst 2, 1) := by decide +kernel
theorem dL_law_293 : decode cL_law 293 = .ok (.iadd, 1) := by decide +kernel
theorem dL_law_294 : decode cL_law 294 = .ok (.iaload, 1) := by decide +kernel
theorem dL_law_295 : decode cL_law 295 = .ok (.ifCond .eq 7, 3) := by decide +kernel
theorem dL_law_298 : decode cL_law 298 = .ok (.iconst 1, 1) := by decide +kernel
theorem dL_law_299 : decode cL_law 299 = .ok (.goto 4, 3) := by decide +kernel
theorem dL_law_302 : decode cL_law 302 = .ok (.iconst 0, 1) := by decide +kernel
theorem dL_law_303 : decode cL_law 303 = .ok (.invokevirtual 23, 3) := by decide +kernel
theorem dL_law_306 : decode cL_law 306 = .ok (.aload_n 2, 1) := by decide +kernel
theorem dL_law_307 : decode cL_law 307 = .ok (.aload_n 0, 1) := by decide +kernel
theorem dL_law_308 : decode cL_law 308 = .ok (.iload_n 3, 1) := by decide +kernel
theorem dL_law_309 : decode cL_law 309 = .ok (.iconst 1, 1) := by decide +kernel
theorem dL_law_310 : decode cL_law 310 = .ok (.iadd, 1) := by decide +kernel
theorem dL_law_311 : decode cL_law 311 = .ok (.iaload, 1) := by decide +kernel
theorem dL_law_312 : decode cL_law 312 = .ok (.aload_n 0, 1) := by decide +kernel
theorem dL_law_313 : decode cL_law 313 = .ok (.iload_n 3, 1) := by decide +kernel
theorem dL_law_314 : decode cL_law 314 = .ok (.iconst 2, 1) := by decide +kernel
theorem dL_law_315 : decode cL_law 315 = .ok (.iadd, 1) := by decide +kernel
theorem dL_law_316 : decode cL_law 316 = .ok (.iaload, 1) := by decide +kernel
theorem dL_law_317 : decode cL_law 317 = .ok (.ifCond .eq 7, 3) := by decide +kernel
theorem dL_law_320 : decode cL_law 320 = .ok (.iconst 1, 1) := by decide +kernel
theorem dL_law_321 : decode cL_law 321 = .ok (.goto 4, 3) := by decide +kernel
theorem dL_law_324 : decode cL_law 324 = .ok (.iconst 0, 1) := by decide +kernel
theorem dL_law_325 : decode cL_law 325 = .ok (.invokevirtual 27, 3) := by decide +kernel
theorem dL_law_328 : decode cL_law 328 = .ok (.if_icmp .eq 650, 3) := by decide +kernel
theorem dL_law_331 : decode cL_law 331 = .ok (.iconst 0, 1) := by decide +kernel
theorem dL_law_332 : decode cL_law 332 = .ok (.ireturn, 1) := by decide +kernel
theorem dL_law_333 : decode cL_law 333 = .ok (.aload_n 1, 1) := by decide +kernel
theorem dL_law_334 : decode cL_law 334 = .ok (.aload_n 0, 1) := by decide +kernel
theorem dL_law_335 : decode cL_law 335 = .ok (.iload_n 3, 1) := by decide +kernel
theorem dL_law_336 : decode cL_law 336 = .ok (.iconst 1, 1) := by decide +kernel
theorem dL_law_337 : decode cL_law 337 = .ok (.iadd, 1) := by decide +kernel
theorem dL_law_338 : decode cL_law 338 = .ok (.iaload, 1) := by decide +kernel
theorem dL_law_339 : decode cL_law 339 = .ok (.invokevirtual 28, 3) := by decide +kernel
theorem dL_law_342 : decode cL_law 342 = .ok (.aload_n 2, 1) := by decide +kernel
theorem dL_law_343 : decode cL_law 343 = .ok (.aload_n 0, 1) := by decide +kernel
theorem dL_law_344 : decode cL_law 344 = .ok (.iload_n 3, 1) := by decide +kernel
theorem dL_law_345 : decode cL_law 345 = .ok (.iconst 1, 1) := by decide +kernel
theorem dL_law_346 : decode cL_law 346 = .ok (.iadd, 1) := by decide +kernel
theorem dL_law_347 : decode cL_law 347 = .ok (.iaload, 1) := by decide +kernel
theorem dL_law_348 : decode cL_law 348 = .ok (.invokevirtual 32, 3) := by decide +kernel
theorem dL_law_351 : decode cL_law 351 = .ok (.if_icmp .eq 627, 3) := by decide +kernel
theorem dL_law_354 : decode cL_law 354 = .ok (.iconst 0, 1) := by decide +kernel
theorem dL_law_355 : decode cL_law 355 = .ok (.ireturn, 1) := by decide +kernel
theorem dL_law_356 : decode cL_law 356 = .ok (.aload_n 1, 1) := by decide +kernel
theorem dL_law_357 : decode cL_law 357 = .ok (.aload_n 0, 1) := by decide +kernel
theorem dL_law_358 : decode cL_law 358 = .ok (.iload_n 3, 1) := by decide +kernel
theorem dL_law_359 : decode cL_law 359 = .ok (.iconst 1, 1) := by decide +kernel
theorem dL_law_360 : decode cL_law 360 = .ok (.iadd, 1) := by decide +kernel
theorem dL_law_361 : decode cL_law 361 = .ok (.iaload, 1) := by decide +kernel
theorem dL_law_362 : decode cL_law 362 = .ok (.aload_n 0, 1) := by decide +kernel
theorem dL_law_363 : decode cL_law 363 = .ok (.iload_n 3, 1) := by decide +kernel
theorem dL_law_364 : decode cL_law 364 = .ok (.iconst 2, 1) := by decide +kernel
theorem dL_law_365 : decode cL_law 365 = .ok (.iadd, 1) := by decide +kernel
theorem dL_law_366 : decode cL_law 366 = .ok (.iaload, 1) := by decide +kernel
theorem dL_law_367 : decode cL_law 367 = .ok (.invokevirtual 33, 3) := by decide +kernel
theorem dL_law_370 : decode cL_law 370 = .ok (.aload_n 2, 1) := by decide +kernel
theorem dL_law_371 : decode cL_law 371 = .ok (.aload_n 0, 1) := by decide +kernel
theorem dL_law_372 : decode cL_law 372 = .ok (.iload_n 3, 1) := by decide +kernel
theorem dL_law_373 : decode cL_law 373 = .ok (.iconst 1, 1) := by decide +kernel
theorem dL_law_374 : decode cL_law 374 = .ok (.iadd, 1) := by decide +kernel
theorem dL_law_375 : decode cL_law 375 = .ok (.iaload, 1) := by decide +kernel
theorem dL_law_376 : decode cL_law 376 = .ok (.aload_n 0, 1) := by decide +kernel
theorem dL_law_377 : decode cL_law 377 = .ok (.iload_n 3, 1) := by decide +kernel
theorem dL_law_378 : decode cL_law 378 = .ok (.iconst 2, 1) := by decide +kernel
theorem dL_law_379 : decode cL_law 379 = .ok (.iadd, 1) := by decide +kernel
theorem dL_law_380 : decode cL_law 380 = .ok (.iaload, 1) := by decide +kernel
theorem dL_law_381 : decode cL_law 381 = .ok (.invokevirtual 37, 3) := by decide +kernel
theorem dL_law_384 : decode cL_law 384 = .ok (.if_icmp .eq 594, 3) := by decide +kernel
theorem dL_law_387 : decode cL_law 387 = .ok (.iconst 0, 1) := by decide +kernel
theorem dL_law_388 : decode cL_law 388 = .ok (.ireturn, 1) := by decide +kernel
theorem dL_law_389 : decode cL_law 389 = .ok (.aload_n 1, 1) := by decide +kernel
theorem dL_law_390 : decode cL_law 390 = .ok (.aload_n 0, 1) := by decide +kernel
theorem dL_law_391 : decode cL_law 391 = .ok (.iload_n 3, 1) := by decide +kernel
theorem dL_law_392 : decode cL_law 392 = .ok (.iconst 1, 1) := by decide +kernel
theorem dL_law_393 : decode cL_law 393 = .ok (.iadd, 1) := by decide +kernel
theorem dL_law_394 : decode cL_law 394 = .ok (.iaload, 1) := by decide +kernel
theorem dL_law_395 : decode cL_law 395 = .ok (.aload_n 0, 1) := by decide +kernel
theorem dL_law_396 : decode cL_law 396 = .ok (.iload_n 3, 1) := by decide +kernel
theorem dL_law_397 : decode cL_law 397 = .ok (.iconst 2, 1) := by decide +kernel
theorem dL_law_398 : decode cL_law 398 = .ok (.iadd, 1) := by decide +kernel
theorem dL_law_399 : decode cL_law 399 = .ok (.iaload, 1) := by decide +kernel
theorem dL_law_400 : decode cL_law 400 = .ok (.aload_n 0, 1) := by decide +kernel
theorem dL_law_401 : decode cL_law 401 = .ok (.iload_n 3, 1) := by decide +kernel
theorem dL_law_402 : decode cL_law 402 = .ok (.iconst 3, 1) := by decide +kernel
theorem dL_law_403 : decode cL_law 403 = .ok (.iadd, 1) := by decide +kernel
theorem dL_law_404 : decode cL_law 404 = .ok (.iaload, 1) := by decide +kernel
theorem dL_law_405 : decode cL_law 405 = .ok (.aload_n 0, 1) := by decide +kernel
theorem dL_law_406 : decode cL_law 406 = .ok (.iload_n 3, 1) := by decide +kernel
theorem dL_law_407 : decode cL_law 407 = .ok (.iconst 4, 1) := by decide +kernel
theorem dL_law_408 : decode cL_law 408 = .ok (.iadd, 1) := by decide +kernel
theorem dL_law_409 : decode cL_law 409 = .ok (.iaload, 1) := by decide +kernel
theorem dL_law_410 : decode cL_law 410 = .ok (.invokevirtual 38, 3) := by decide +kernel
theorem dL_law_413 : decode cL_law 413 = .ok (.aload_n 2, 1) := by decide +kernel
theorem dL_law_414 : decode cL_law 414 = .ok (.aload_n 0, 1) := by decide +kernel
theorem dL_law_415 : decode cL_law 415 = .ok (.iload_n 3, 1) := by decide +kernel
theorem dL_law_416 : decode cL_law 416 = .ok (.iconst 1, 1) := by decide +kernel
theorem dL_law_417 : decode cL_law 417 = .ok (.iadd, 1) := by decide +kernel
theorem dL_law_418 : decode cL_law 418 = .ok (.iaload, 1) := by decide +kernel
theorem dL_law_419 : decode cL_law 419 = .ok (.aload_n 0, 1) := by decide +kernel
theorem dL_law_420 : decode cL_law 420 = .ok (.iload_n 3, 1) := by decide +kernel
theorem dL_law_421 : decode cL_law 421 = .ok (.iconst 2, 1) := by decide +kernel
theorem dL_law_422 : decode cL_law 422 = .ok (.iadd, 1) := by decide +kernel
theorem dL_law_423 : decode cL_law 423 = .ok (.iaload, 1) := by decide +kernel
theorem dL_law_424 : decode cL_law 424 = .ok (.aload_n 0, 1) := by decide +kernel
theorem dL_law_425 : decode cL_law 425 = .ok (.iload_n 3, 1) := by decide +kernel
theorem dL_law_426 : decode cL_law 426 = .ok (.iconst 3, 1) := by decide +kernel
theorem dL_law_427 : decode cL_law 427 = .ok (.iadd, 1) := by decide +kernel
theorem dL_law_428 : decode cL_law 428 = .ok (.iaload, 1) := by decide +kernel
theorem dL_law_429 : decode cL_law 429 = .ok (.aload_n 0, 1) := by decide +kernel
theorem dL_law_430 : decode cL_law 430 = .ok (.iload_n 3, 1) := by decide +kernel
theorem dL_law_431 : decode cL_law 431 = .ok (.iconst 4, 1) := by decide +kernel
theorem dL_law_432 : decode cL_law 432 = .ok (.iadd, 1) := by decide +kernel
theorem dL_law_433 : decode cL_law 433 = .ok (.iaload, 1) := by decide +kernel
theorem dL_law_434 : decode cL_law 434 = .ok (.invokevirtual 41, 3) := by decide +kernel
theorem dL_law_437 : decode cL_law 437 = .ok (.if_icmp .eq 541, 3) := by decide +kernel
theorem dL_law_440 : decode cL_law 440 = .ok (.iconst 0, 1) := by decide +kernel
theorem dL_law_441 : decode cL_law 441 = .ok (.ireturn, 1) := by decide +kernel
theorem dL_law_442 : decode cL_law 442 = .ok (.aload_n 1, 1) := by decide +kernel
theorem dL_law_443 : decode cL_law 443 = .ok (.aload_n 0, 1) := by decide +kernel
theorem dL_law_444 : decode cL_law 444 = .ok (.iload_n 3, 1) := by decide +kernel
theorem dL_law_445 : decode cL_law 445 = .ok (.iconst 1, 1) := by decide +kernel
theorem dL_law_446 : decode cL_law 446 = .ok (.iadd, 1) := by decide +kernel
theorem dL_law_447 : decode cL_law 447 = .ok (.iaload, 1) := by decide +kernel
theorem dL_law_448 : decode cL_law 448 = .ok (.aload_n 0, 1) := by decide +kernel
theorem dL_law_449 : decode cL_law 449 = .ok (.iload_n 3, 1) := by decide +kernel
theorem dL_law_450 : decode cL_law 450 = .ok (.iconst 2, 1) := by decide +kernel
theorem dL_law_451 : decode cL_law 451 = .ok (.iadd, 1) := by decide +kernel
theorem dL_law_452 : decode cL_law 452 = .ok (.iaload, 1) := by decide +kernel
theorem dL_law_453 : decode cL_law 453 = .ok (.aload_n 0, 1) := by decide +kernel
theorem dL_law_454 : decode cL_law 454 = .ok (.iload_n 3, 1) := by decide +kernel
theorem dL_law_455 : decode cL_law 455 = .ok (.iconst 3, 1) := by decide +kernel
theorem dL_law_456 : decode cL_law 456 = .ok (.iadd, 1) := by decide +kernel
theorem dL_law_457 : decode cL_law 457 = .ok (.iaload, 1) := by decide +kernel
theorem dL_law_458 : decode cL_law 458 = .ok (.invokevirtual 42, 3) := by decide +kernel
theorem dL_law_461 : decode cL_law 461 = .ok (.aload_n 2, 1) := by decide +kernel
theorem dL_law_462 : decode cL_law 462 = .ok (.aload_n 0, 1) := by decide +kernel
theorem dL_law_463 : decode cL_law 463 = .ok (.iload_n 3, 1) := by decide +kernel
theorem dL_law_464 : decode cL_law 464 = .ok (.iconst 1, 1) := by decide +kernel
theorem dL_law_465 : decode cL_law 465 = .ok (.iadd, 1) := by decide +kernel
theorem dL_law_466 : decode cL_law 466 = .ok (.iaload, 1) := by decide +kernel
theorem dL_law_467 : decode cL_law 467 = .ok (.aload_n 0, 1) := by decide +kernel
theorem dL_law_468 : decode cL_law 468 = .ok (.iload_n 3, 1) := by decide +kernel
theorem dL_law_469 : decode cL_law 469 = .ok (.iconst 2, 1) := by decide +kernel
theorem dL_law_470 : decode cL_law 470 = .ok (.iadd, 1) := by decide +kernel
theorem dL_law_471 : decode cL_law 471 = .ok (.iaload, 1) := by decide +kernel
theorem dL_law_472 : decode cL_law 472 = .ok (.aload_n 0, 1) := by decide +kernel
theorem dL_law_473 : decode cL_law 473 = .ok (.iload_n 3, 1) := by decide +kernel
theorem dL_law_474 : decode cL_law 474 = .ok (.iconst 3, 1) := by decide +kernel
theorem dL_law_475 : decode cL_law 475 = .ok (.iadd, 1) := by decide +kernel
theorem dL_law_476 : decode cL_law 476 = .ok (.iaload, 1) := by decide +kernel
theorem dL_law_477 : decode cL_law 477 = .ok (.invokevirtual 46, 3) := by decide +kernel
theorem dL_law_480 : decode cL_law 480 = .ok (.if_icmp .eq 498, 3) := by decide +kernel
theorem dL_law_483 : decode cL_law 483 = .ok (.iconst 0, 1) := by decide +kernel
theorem dL_law_484 : decode cL_law 484 = .ok (.ireturn, 1) := by decide +kernel
theorem dL_law_485 : decode cL_law 485 = .ok (.aload_n 1, 1) := by decide +kernel
theorem dL_law_486 : decode cL_law 486 = .ok (.aload_n 0, 1) := by decide +kernel
theorem dL_law_487 : decode cL_law 487 = .ok (.iload_n 3, 1) := by decide +kernel
theorem dL_law_488 : decode cL_law 488 = .ok (.iconst 1, 1) := by decide +kernel
theorem dL_law_489 : decode cL_law 489 = .ok (.iadd, 1) := by decide +kernel
theorem dL_law_490 : decode cL_law 490 = .ok (.iaload, 1) := by decide +kernel
theorem dL_law_491 : decode cL_law 491 = .ok (.invokevirtual 47, 3) := by decide +kernel
theorem dL_law_494 : decode cL_law 494 = .ok (.aload_n 2, 1) := by decide +kernel
theorem dL_law_495 : decode cL_law 495 = .ok (.aload_n 0, 1) := by decide +kernel
theorem dL_law_496 : decode cL_law 496 = .ok (.iload_n 3, 1) := by decide +kernel
theorem dL_law_497 : decode cL_law 497 = .ok (.iconst 1, 1) := by decide +kernel
theorem dL_law_498 : decode cL_law 498 = .ok (.iadd, 1) := by decide +kernel
theorem dL_law_499 : decode cL_law 499 = .ok (.iaload, 1) := by decide +kernel
theorem dL_law_500 : decode cL_law 500 = .ok (.invokevirtual 50, 3) := by decide +kernel
theorem dL_law_503 : decode cL_law 503 = .ok (.if_icmp .eq 475, 3) := by decide +kernel
theorem dL_law_506 : decode cL_law 506 = .ok (.iconst 0, 1) := by decide +kernel
theorem dL_law_507 : decode cL_law 507 = .ok (.ireturn, 1) := by decide +kernel
theorem dL_law_508 : decode cL_law 508 = .ok (.aload_n 1, 1) := by decide +kernel
theorem dL_law_509 : decode cL_law 509 = .ok (.aload_n 0, 1) := by decide +kernel
theorem dL_law_510 : decode cL_law 510 = .ok (.iload_n 3, 1) := by decide +kernel
theorem dL_law_511 : decode cL_law 511 = .ok (.iconst 1, 1) := by decide +kernel
theorem dL_law_512 : decode cL_law 512 = .ok (.iadd, 1) := by decide +kernel
theorem dL_law_513 : decode cL_law 513 = .ok (.iaload, 1) := by decide +kernel
theorem dL_law_514 : decode cL_law 514 = .ok (.i2c, 1) := by decide +kernel
theorem dL_law_515 : decode cL_law 515 = .ok (.invokevirtual 51, 3) := by decide +kernel
theorem dL_law_518 : decode cL_law 518 = .ok (.aload_n 2, 1) := by decide +kernel
theorem dL_law_519 : decode cL_law 519 = .ok (.aload_n 0, 1) := by decide +kernel
theorem dL_law_520 : decode cL_law 520 = .ok (.iload_n 3, 1) := by decide +kernel
theorem dL_law_521 : decode cL_law 521 = .ok (.iconst 1, 1) := by decide +kernel
theorem dL_law_522 : decode cL_law 522 = .ok (.iadd, 1) := by decide +kernel
theorem dL_law_523 : decode cL_law 523 = .ok (.iaload, 1) := by decide +kernel
theorem dL_law_524 : decode cL_law 524 = .ok (.i2c, 1) := by decide +kernel
theorem dL_law_525 : decode cL_law 525 = .ok (.invokevirtual 55, 3) := by decide +kernel
theorem dL_law_528 : decode cL_law 528 = .ok (.if_icmp .eq 450, 3) := by decide +kernel
theorem dL_law_531 : decode cL_law 531 = .ok (.iconst 0, 1) := by decide +kernel
theorem dL_law_532 : decode cL_law 532 = .ok (.ireturn, 1) := by decide +kernel
theorem dL_law_533 : decode cL_law 533 = .ok (.aload_n 1, 1) := by decide +kernel
theorem dL_law_534 : decode cL_law 534 = .ok (.invokevirtual 56, 3) := by decide +kernel
theorem dL_law_537 : decode cL_law 537 = .ok (.aload_n 2, 1) := by decide +kernel
theorem dL_law_538 : decode cL_law 538 = .ok (.invokevirtual 60, 3) := by decide +kernel
theorem dL_law_541 : decode cL_law 541 = .ok (.if_icmp .eq 437, 3) := by decide +kernel
theorem dL_law_544 : decode cL_law 544 = .ok (.iconst 0, 1) := by decide +kernel
theorem dL_law_545 : decode cL_law 545 = .ok (.ireturn, 1) := by decide +kernel
theorem dL_law_546 : decode cL_law 546 = .ok (.aload_n 1, 1) := by decide +kernel
theorem dL_law_547 : decode cL_law 547 = .ok (.invokevirtual 61, 3) := by decide +kernel
theorem dL_law_550 : decode cL_law 550 = .ok (.aload_n 2, 1) := by decide +kernel
theorem dL_law_551 : decode cL_law 551 = .ok (.invokevirtual 64, 3) := by decide +kernel
theorem dL_law_554 : decode cL_law 554 = .ok (.if_icmp .eq 424, 3) := by decide +kernel
theorem dL_law_557 : decode cL_law 557 = .ok (.iconst 0, 1) := by decide +kernel
theorem dL_law_558 : decode cL_law 558 = .ok (.ireturn, 1) := by decide +kernel
theorem dL_law_559 : decode cL_law 559 = .ok (.aload_n 1, 1) := by decide +kernel
theorem dL_law_560 : decode cL_law 560 = .ok (.invokevirtual 65, 3) := by decide +kernel
theorem dL_law_563 : decode cL_law 563 = .ok (.aload_n 2, 1) := by decide +kernel
theorem dL_law_564 : decode cL_law 564 = .ok (.invokevirtual 68, 3) := by decide +kernel
theorem dL_law_567 : decode cL_law 567 = .ok (.if_icmp .eq 411, 3) := by decide +kernel
theorem dL_law_570 : decode cL_law 570 = .ok (.iconst 0, 1) := by decide +kernel
theorem dL_law_571 : decode cL_law 571 = .ok (.ireturn, 1) := by decide +kernel
theorem dL_law_572 : decode cL_law 572 = .ok (.aload_n 1, 1) := by decide +kernel
theorem dL_law_573 : decode cL_law 573 = .ok (.invokevirtual 69, 3) := by decide +kernel
theorem dL_law_576 : decode cL_law 576 = .ok (.aload_n 2, 1) := by decide +kernel
theorem dL_law_577 : decode cL_law 577 = .ok (.invokevirtual 72, 3) := by decide +kernel
theorem dL_law_580 : decode cL_law 580 = .ok (.if_icmp .eq 398, 3) := by decide +kernel
theorem dL_law_583 : decode cL_law 583 = .ok (.iconst 0, 1) := by decide +kernel
theorem dL_law_584 : decode cL_law 584 = .ok (.ireturn, 1) := by decide +kernel
theorem dL_law_585 : decode cL_law 585 = .ok (.aload_n 1, 1) := by decide +kernel
theorem dL_law_586 : decode cL_law 586 = .ok (.invokevirtual 73, 3) := by decide +kernel
theorem dL_law_589 : decode cL_law 589 = .ok (.aload_n 2, 1) := by decide +kernel
theorem dL_law_590 : decode cL_law 590 = .ok (.invokevirtual 76, 3) := by decide +kernel
theorem dL_law_593 : decode cL_law 593 = .ok (.if_icmp .eq 385, 3) := by decide +kernel
theorem dL_law_596 : decode cL_law 596 = .ok (.iconst 0, 1) := by decide +kernel
theorem dL_law_597 : decode cL_law 597 = .ok (.ireturn, 1) := by decide +kernel
theorem dL_law_598 : decode cL_law 598 = .ok (.aload_n 1, 1) := by decide +kernel
theorem dL_law_599 : decode cL_law 599 = .ok (.aload_n 0, 1) := by decide +kernel
theorem dL_law_600 : decode cL_law 600 = .ok (.iload_n 3, 1) := by decide +kernel
theorem dL_law_601 : decode cL_law 601 = .ok (.iconst 1, 1) := by decide +kernel
theorem dL_law_602 : decode cL_law 602 = .ok (.iadd, 1) := by decide +kernel
theorem dL_law_603 : decode cL_law 603 = .ok (.iaload, 1) := by decide +kernel
theorem dL_law_604 : decode cL_law 604 = .ok (.aload_n 0, 1) := by decide +kernel
theorem dL_law_605 : decode cL_law 605 = .ok (.iload_n 3, 1) := by decide +kernel
theorem dL_law_606 : decode cL_law 606 = .ok (.iconst 2, 1) := by decide +kernel
theorem dL_law_607 : decode cL_law 607 = .ok (.iadd, 1) := by decide +kernel
theorem dL_law_608 : decode cL_law 608 = .ok (.iaload, 1) := by decide +kernel
theorem dL_law_609 : decode cL_law 609 = .ok (.invokevirtual 77, 3) := by decide +kernel
theorem dL_law_612 : decode cL_law 612 = .ok (.aload_n 2, 1) := by decide +kernel
theorem dL_law_613 : decode cL_law 613 = .ok (.aload_n 0, 1) := by decide +kernel
theorem dL_law_614 : decode cL_law 614 = .ok (.iload_n 3, 1) := by decide +kernel
theorem dL_law_615 : decode cL_law 615 = .ok (.iconst 1, 1) := by decide +kernel
theorem dL_law_616 : decode cL_law 616 = .ok (.iadd, 1) := by decide +kernel
theorem dL_law_617 : decode cL_law 617 = .ok (.iaload, 1) := by decide +kernel
theorem dL_law_618 : decode cL_law 618 = .ok (.aload_n 0, 1) := by decide +kernel
theorem dL_law_619 : decode cL_law 619 = .ok (.iload_n 3, 1) := by decide +kernel
theorem dL_law_620 : decode cL_law 620 = .ok (.iconst 2, 1) := by decide +kernel
theorem dL_law_621 : decode cL_law 621 = .ok (.iadd, 1) := by decide +kernel
theorem dL_law_622 : decode cL_law 622 = .ok (.iaload, 1) := by decide +kernel
theorem dL_law_623 : decode cL_law 623 = .ok (.invokevirtual 80, 3) := by decide +kernel
theorem dL_law_626 : decode cL_law 626 = .ok (.if_icmp .eq 352, 3) := by decide +kernel
theorem dL_law_629 : decode cL_law 629 = .ok (.iconst 0, 1) := by decide +kernel
theorem dL_law_630 : decode cL_law 630 = .ok (.ireturn, 1) := by decide +kernel
theorem dL_law_631 : decode cL_law 631 = .ok (.aload_n 1, 1) := by decide +kernel
theorem dL_law_632 : decode cL_law 632 = .ok (.aload_n 0, 1) := by decide +kernel
theorem dL_law_633 : decode cL_law 633 = .ok (.iload_n 3, 1) := by decide +kernel
theorem dL_law_634 : decode cL_law 634 = .ok (.iconst 1, 1) := by decide +kernel
theorem dL_law_635 : decode cL_law 635 = .ok (.iadd, 1) := by decide +kernel
theorem dL_law_636 : decode cL_law 636 = .ok (.iaload, 1) := by decide +kernel
theorem dL_law_637 : decode cL_law 637 = .ok (.invokevirtual 81, 3) := by decide +kernel
theorem dL_law_640 : decode cL_law 640 = .ok (.aload_n 2, 1) := by decide +kernel
theorem dL_law_641 : decode cL_law 641 = .ok (.aload_n 0, 1) := by decide +kernel
theorem dL_law_642 : decode cL_law 642 = .ok (.iload_n 3, 1) := by decide +kernel
theorem dL_law_643 : decode cL_law 643 = .ok (.iconst 1, 1) := by decide +kernel
theorem dL_law_644 : decode cL_law 644 = .ok (.iadd, 1) := by decide +kernel
theorem dL_law_645 : decode cL_law 645 = .ok (.iaload, 1) := by decide +kernel
theorem dL_law_646 : decode cL_law 646 = .ok (.invokevirtual 84, 3) := by decide +kernel
theorem dL_law_649 : decode cL_law 649 = .ok (.if_icmp .eq 329, 3) := by decide +kernel
theorem dL_law_652 : decode cL_law 652 = .ok (.iconst 0, 1) := by decide +kernel
theorem dL_law_653 : decode cL_law 653 = .ok (.ireturn, 1) := by decide +kernel
theorem dL_law_654 : decode cL_law 654 = .ok (.aload_n 1, 1) := by decide +kernel
theorem dL_law_655 : decode cL_law 655 = .ok (.aload_n 0, 1) := by decide +kernel
theorem dL_law_656 : decode cL_law 656 = .ok (.iload_n 3, 1) := by decide +kernel
theorem dL_law_657 : decode cL_law 657 = .ok (.iconst 1, 1) := by decide +kernel
theorem dL_law_658 : decode cL_law 658 = .ok (.iadd, 1) := by decide +kernel
theorem dL_law_659 : decode cL_law 659 = .ok (.iaload, 1) := by decide +kernel
theorem dL_law_660 : decode cL_law 660 = .ok (.aload_n 0, 1) := by decide +kernel
theorem dL_law_661 : decode cL_law 661 = .ok (.iload_n 3, 1) := by decide +kernel
theorem dL_law_662 : decode cL_law 662 = .ok (.iconst 2, 1) := by decide +kernel
theorem dL_law_663 : decode cL_law 663 = .ok (.iadd, 1) := by decide +kernel
theorem dL_law_664 : decode cL_law 664 = .ok (.iaload, 1) := by decide +kernel
theorem dL_law_665 : decode cL_law 665 = .ok (.invokevirtual 85, 3) := by decide +kernel
theorem dL_law_668 : decode cL_law 668 = .ok (.aload_n 2, 1) := by decide +kernel
theorem dL_law_669 : decode cL_law 669 = .ok (.aload_n 0, 1) := by decide +kernel
theorem dL_law_670 : decode cL_law 670 = .ok (.iload_n 3, 1) := by decide +kernel
theorem dL_law_671 : decode cL_law 671 = .ok (.iconst 1, 1) := by decide +kernel
theorem dL_law_672 : decode cL_law 672 = .ok (.iadd, 1) := by decide +kernel
theorem dL_law_673 : decode cL_law 673 = .ok (.iaload, 1) := by decide +kernel
theorem dL_law_674 : decode cL_law 674 = .ok (.aload_n 0, 1) := by decide +kernel
theorem dL_law_675 : decode cL_law 675 = .ok (.iload_n 3, 1) := by decide +kernel
theorem dL_law_676 : decode cL_law 676 = .ok (.iconst 2, 1) := by decide +kernel
theorem dL_law_677 : decode cL_law 677 = .ok (.iadd, 1) := by decide +kernel
theorem dL_law_678 : decode cL_law 678 = .ok (.iaload, 1) := by decide +kernel
theorem dL_law_679 : decode cL_law 679 = .ok (.invokevirtual 88, 3) := by decide +kernel
theorem dL_law_682 : decode cL_law 682 = .ok (.if_icmp .eq 296, 3) := by decide +kernel
theorem dL_law_685 : decode cL_law 685 = .ok (.iconst 0, 1) := by decide +kernel
theorem dL_law_686 : decode cL_law 686 = .ok (.ireturn, 1) := by decide +kernel
theorem dL_law_687 : decode cL_law 687 = .ok (.aload_n 1, 1) := by decide +kernel
theorem dL_law_688 : decode cL_law 688 = .ok (.aload_n 0, 1) := by decide +kernel
theorem dL_law_689 : decode cL_law 689 = .ok (.iload_n 3, 1) := by decide +kernel
theorem dL_law_690 : decode cL_law 690 = .ok (.iconst 1, 1) := by decide +kernel
theorem dL_law_691 : decode cL_law 691 = .ok (.iadd, 1) := by decide +kernel
theorem dL_law_692 : decode cL_law 692 = .ok (.iaload, 1) := by decide +kernel
theorem dL_law_693 : decode cL_law 693 = .ok (.aload_n 0, 1) := by decide +kernel
theorem dL_law_694 : decode cL_law 694 = .ok (.iload_n 3, 1) := by decide +kernel
theorem dL_law_695 : decode cL_law 695 = .ok (.iconst 2, 1) := by decide +kernel
theorem dL_law_696 : decode cL_law 696 = .ok (.iadd, 1) := by decide +kernel
theorem dL_law_697 : decode cL_law 697 = .ok (.iaload, 1) := by decide +kernel
theorem dL_law_698 : decode cL_law 698 = .ok (.aload_n 0, 1) := by decide +kernel
theorem dL_law_699 : decode cL_law 699 = .ok (.iload_n 3, 1) := by decide +kernel
theorem dL_law_700 : decode cL_law 700 = .ok (.iconst 3, 1) := by decide +kernel
theorem dL_law_701 : decode cL_law 701 = .ok (.iadd, 1) := by decide +kernel
theorem dL_law_702 : decode cL_law 702 = .ok (.iaload, 1) := by decide +kernel
theorem dL_law_703 : decode cL_law 703 = .ok (.invokevirtual 89, 3) := by decide +kernel
theorem dL_law_706 : decode cL_law 706 = .ok (.aload_n 2, 1) := by decide +kernel
theorem dL_law_707 : decode cL_law 707 = .ok (.aload_n 0, 1) := by decide +kernel
theorem dL_law_708 : decode cL_law 708 = .ok (.iload_n 3, 1) := by decide +kernel
theorem dL_law_709 : decode cL_law 709 = .ok (.iconst 1, 1) := by decide +kernel
theorem dL_law_710 : decode cL_law 710 = .ok (.iadd, 1) := by decide +kernel
theorem dL_law_711 : decode cL_law 711 = .ok (.iaload, 1) := by decide +kernel
theorem dL_law_712 : decode cL_law 712 = .ok (.aload_n 0, 1) := by decide +kernel
theorem dL_law_713 : decode cL_law 713 = .ok (.iload_n 3, 1) := by decide +kernel
theorem dL_law_714 : decode cL_law 714 = .ok (.iconst 2, 1) := by decide +kernel
theorem dL_law_715 : decode cL_law 715 = .ok (.iadd, 1) := by decide +kernel
theorem dL_law_716 : decode cL_law 716 = .ok (.iaload, 1) := by decide +kernel
theorem dL_law_717 : decode cL_law 717 = .ok (.aload_n 0, 1) := by decide +kernel
theorem dL_law_718 : decode cL_law 718 = .ok (.iload_n 3, 1) := by decide +kernel
theorem dL_law_719 : decode cL_law 719 = .ok (.iconst 3, 1) := by decide +kernel
theorem dL_law_720 : decode cL_law 720 = .ok (.iadd, 1) := by decide +kernel
theorem dL_law_721 : decode cL_law 721 = .ok (.iaload, 1) := by decide +kernel
theorem dL_law_722 : decode cL_law 722 = .ok (.invokevirtual 92, 3) := by decide +kernel
theorem dL_law_725 : decode cL_law 725 = .ok (.if_icmp .eq 253, 3) := by decide +kernel
theorem dL_law_728 : decode cL_law 728 = .ok (.iconst 0, 1) := by decide +kernel
theorem dL_law_729 : decode cL_law 729 = .ok (.ireturn, 1) := by decide +kernel
theorem dL_law_730 : decode cL_law 730 = .ok (.aload_n 1, 1) := by decide +kernel
theorem dL_law_731 : decode cL_law 731 = .ok (.aload_n 0, 1) := by decide +kernel
theorem dL_law_732 : decode cL_law 732 = .ok (.iload_n 3, 1) := by decide +kernel
theorem dL_law_733 : decode cL_law 733 = .ok (.iconst 1, 1) := by decide +kernel
theorem dL_law_734 : decode cL_law 734 = .ok (.iadd, 1) := by decide +kernel
theorem dL_law_735 : decode cL_law 735 = .ok (.iaload, 1) := by decide +kernel
theorem dL_law_736 : decode cL_law 736 = .ok (.aload_n 0, 1) := by decide +kernel
theorem dL_law_737 : decode cL_law 737 = .ok (.iload_n 3, 1) := by decide +kernel
theorem dL_law_738 : decode cL_law 738 = .ok (.iconst 2, 1) := by decide +kernel
theorem dL_law_739 : decode cL_law 739 = .ok (.iadd, 1) := by decide +kernel
theorem dL_law_740 : decode cL_law 740 = .ok (.iaload, 1) := by decide +kernel
theorem dL_law_741 : decode cL_law 741 = .ok (.invokevirtual 93, 3) := by decide +kernel
theorem dL_law_744 : decode cL_law 744 = .ok (.aload_n 2, 1) := by decide +kernel
theorem dL_law_745 : decode cL_law 745 = .ok (.aload_n 0, 1) := by decide +kernel
theorem dL_law_746 : decode cL_law 746 = .ok (.iload_n 3, 1) := by decide +kernel
theorem dL_law_747 : decode cL_law 747 = .ok (.iconst 1, 1) := by decide +kernel
theorem dL_law_748 : decode cL_law 748 = .ok (.iadd, 1) := by decide +kernel
theorem dL_law_749 : decode cL_law 749 = .ok (.iaload, 1) := by decide +kernel
theorem dL_law_750 : decode cL_law 750 = .ok (.aload_n 0, 1) := by decide +kernel
theorem dL_law_751 : decode cL_law 751 = .ok (.iload_n 3, 1) := by decide +kernel
theorem dL_law_752 : decode cL_law 752 = .ok (.iconst 2, 1) := by decide +kernel
theorem dL_law_753 : decode cL_law 753 = .ok (.iadd, 1) := by decide +kernel
theorem dL_law_754 : decode cL_law 754 = .ok (.iaload, 1) := by decide +kernel
theorem dL_law_755 : decode cL_law 755 = .ok (.invokevirtual 96, 3) := by decide +kernel
theorem dL_law_758 : decode cL_law 758 = .ok (.if_icmp .eq 220, 3) := by decide +kernel
theorem dL_law_761 : decode cL_law 761 = .ok (.iconst 0, 1) := by decide +kernel
theorem dL_law_762 : decode cL_law 762 = .ok (.ireturn, 1) := by decide +kernel
theorem dL_law_763 : decode cL_law 763 = .ok (.aload_n 1, 1) := by decide +kernel
theorem dL_law_764 : decode cL_law 764 = .ok (.aload_n 0, 1) := by decide +kernel
theorem dL_law_765 : decode cL_law 765 = .ok (.iload_n 3, 1) := by decide +kernel
theorem dL_law_766 : decode cL_law 766 = .ok (.iconst 1, 1) := by decide +kernel
theorem dL_law_767 : decode cL_law 767 = .ok (.iadd, 1) := by decide +kernel
theorem dL_law_768 : decode cL_law 768 = .ok (.iaload, 1) := by decide +kernel
theorem dL_law_769 : decode cL_law 769 = .ok (.invokevirtual 97, 3) := by decide +kernel
theorem dL_law_772 : decode cL_law 772 = .ok (.aload_n 2, 1) := by decide +kernel
theorem dL_law_773 : decode cL_law 773 = .ok (.aload_n 0, 1) := by decide +kernel
theorem dL_law_774 : decode cL_law 774 = .ok (.iload_n 3, 1) := by decide +kernel
theorem dL_law_775 : decode cL_law 775 = .ok (.iconst 1, 1) := by decide +kernel
theorem dL_law_776 : decode cL_law 776 = .ok (.iadd, 1) := by decide +kernel
theorem dL_law_777 : decode cL_law 777 = .ok (.iaload, 1) := by decide +kernel
theorem dL_law_778 : decode cL_law 778 = .ok (.invokevirtual 100, 3) := by decide +kernel
theorem dL_law_781 : decode cL_law 781 = .ok (.if_icmp .eq 197, 3) := by decide +kernel
theorem dL_law_784 : decode cL_law 784 = .ok (.iconst 0, 1) := by decide +kernel
theorem dL_law_785 : decode cL_law 785 = .ok (.ireturn, 1) := by decide +kernel
theorem dL_law_786 : decode cL_law 786 = .ok (.aload_n 1, 1) := by decide +kernel
theorem dL_law_787 : decode cL_law 787 = .ok (.aload_n 0, 1) := by decide +kernel
theorem dL_law_788 : decode cL_law 788 = .ok (.iload_n 3, 1) := by decide +kernel
theorem dL_law_789 : decode cL_law 789 = .ok (.iconst 1, 1) := by decide +kernel
theorem dL_law_790 : decode cL_law 790 = .ok (.iadd, 1) := by decide +kernel
theorem dL_law_791 : decode cL_law 791 = .ok (.iaload, 1) := by decide +kernel
theorem dL_law_792 : decode cL_law 792 = .ok (.aload_n 0, 1) := by decide +kernel
theorem dL_law_793 : decode cL_law 793 = .ok (.iload_n 3, 1) := by decide +kernel
theorem dL_law_794 : decode cL_law 794 = .ok (.iconst 2, 1) := by decide +kernel
theorem dL_law_795 : decode cL_law 795 = .ok (.iadd, 1) := by decide +kernel
theorem dL_law_796 : decode cL_law 796 = .ok (.iaload, 1) := by decide +kernel
theorem dL_law_797 : decode cL_law 797 = .ok (.aload_n 0, 1) := by decide +kernel
theorem dL_law_798 : decode cL_law 798 = .ok (.iload_n 3, 1) := by decide +kernel
theorem dL_law_799 : decode cL_law 799 = .ok (.iconst 3, 1) := by decide +kernel
theorem dL_law_800 : decode cL_law 800 = .ok (.iadd, 1) := by decide +kernel
theorem dL_law_801 : decode cL_law 801 = .ok (.iaload, 1) := by decide +kernel
theorem dL_law_802 : decode cL_law 802 = .ok (.aload_n 0, 1) := by decide +kernel
theorem dL_law_803 : decode cL_law 803 = .ok (.iload_n 3, 1) := by decide +kernel
theorem dL_law_804 : decode cL_law 804 = .ok (.iconst 4, 1) := by decide +kernel
theorem dL_law_805 : decode cL_law 805 = .ok (.iadd, 1) := by decide +kernel
theorem dL_law_806 : decode cL_law 806 = .ok (.iaload, 1) := by decide +kernel
theorem dL_law_807 : decode cL_law 807 = .ok (.aload_n 0, 1) := by decide +kernel
theorem dL_law_808 : decode cL_law 808 = .ok (.iload_n 3, 1) := by decide +kernel
theorem dL_law_809 : decode cL_law 809 = .ok (.iconst 5, 1) := by decide +kernel
theorem dL_law_810 : decode cL_law 810 = .ok (.iadd, 1) := by decide +kernel
theorem dL_law_811 : decode cL_law 811 = .ok (.iaload, 1) := by decide +kernel
theorem dL_law_812 : decode cL_law 812 = .ok (.invokevirtual 101, 3) := by decide +kernel
theorem dL_law_815 : decode cL_law 815 = .ok (.aload_n 2, 1) := by decide +kernel
theorem dL_law_816 : decode cL_law 816 = .ok (.aload_n 0, 1) := by decide +kernel
theorem dL_law_817 : decode cL_law 817 = .ok (.iload_n 3, 1) := by decide +kernel
theorem dL_law_818 : decode cL_law 818 = .ok (.iconst 1, 1) := by decide +kernel
theorem dL_law_819 : decode cL_law 819 = .ok (.iadd, 1) := by decide +kernel
theorem dL_law_820 : decode cL_law 820 = .ok (.iaload, 1) := by decide +kernel
theorem dL_law_821 : decode cL_law 821 = .ok (.aload_n 0, 1) := by decide +kernel
theorem dL_law_822 : decode cL_law 822 = .ok (.iload_n 3, 1) := by decide +kernel
theorem dL_law_823 : decode cL_law 823 = .ok (.iconst 2, 1) := by decide +kernel
theorem dL_law_824 : decode cL_law 824 = .ok (.iadd, 1) := by decide +kernel
theorem dL_law_825 : decode cL_law 825 = .ok (.iaload, 1) := by decide +kernel
theorem dL_law_826 : decode cL_law 826 = .ok (.aload_n 0, 1) := by decide +kernel
theorem dL_law_827 : decode cL_law 827 = .ok (.iload_n 3, 1) := by decide +kernel
theorem dL_law_828 : decode cL_law 828 = .ok (.iconst 3, 1) := by decide +kernel
theorem dL_law_829 : decode cL_law 829 = .ok (.iadd, 1) := by decide +kernel
theorem dL_law_830 : decode cL_law 830 = .ok (.iaload, 1) := by decide +kernel
theorem dL_law_831 : decode cL_law 831 = .ok (.aload_n 0, 1) := by decide +kernel
theorem dL_law_832 : decode cL_law 832 = .ok (.iload_n 3, 1) := by decide +kernel
theorem dL_law_833 : decode cL_law 833 = .ok (.iconst 4, 1) := by decide +kernel
theorem dL_law_834 : decode cL_law 834 = .ok (.iadd, 1) := by decide +kernel
theorem dL_law_835 : decode cL_law 835 = .ok (.iaload, 1) := by decide +kernel
theorem dL_law_836 : decode cL_law 836 = .ok (.aload_n 0, 1) := by decide +kernel
theorem dL_law_837 : decode cL_law 837 = .ok (.iload_n 3, 1) := by decide +kernel
theorem dL_law_838 : decode cL_law 838 = .ok (.iconst 5, 1) := by decide +kernel
theorem dL_law_839 : decode cL_law 839 = .ok (.iadd, 1) := by decide +kernel
theorem dL_law_840 : decode cL_law 840 = .ok (.iaload, 1) := by decide +kernel
theorem dL_law_841 : decode cL_law 841 = .ok (.invokevirtual 105, 3) := by decide +kernel
theorem dL_law_844 : decode cL_law 844 = .ok (.if_icmp .eq 134, 3) := by decide +kernel
theorem dL_law_847 : decode cL_law 847 = .ok (.iconst 0, 1) := by decide +kernel
theorem dL_law_848 : decode cL_law 848 = .ok (.ireturn, 1) := by decide +kernel
theorem dL_law_849 : decode cL_law 849 = .ok (.aload_n 1, 1) := by decide +kernel
theorem dL_law_850 : decode cL_law 850 = .ok (.aload_n 0, 1) := by decide +kernel
theorem dL_law_851 : decode cL_law 851 = .ok (.iload_n 3, 1) := by decide +kernel
theorem dL_law_852 : decode cL_law 852 = .ok (.iconst 1, 1) := by decide +kernel
theorem dL_law_853 : decode cL_law 853 = .ok (.iadd, 1) := by decide +kernel
theorem dL_law_854 : decode cL_law 854 = .ok (.iaload, 1) := by decide +kernel
theorem dL_law_855 : decode cL_law 855 = .ok (.aload_n 0, 1) := by decide +kernel
theorem dL_law_856 : decode cL_law 856 = .ok (.iload_n 3, 1) := by decide +kernel
theorem dL_law_857 : decode cL_law 857 = .ok (.iconst 2, 1) := by decide +kernel
theorem dL_law_858 : decode cL_law 858 = .ok (.iadd, 1) := by decide +kernel
theorem dL_law_859 : decode cL_law 859 = .ok (.iaload, 1) := by decide +kernel
theorem dL_law_860 : decode cL_law 860 = .ok (.aload_n 0, 1) := by decide +kernel
theorem dL_law_861 : decode cL_law 861 = .ok (.iload_n 3, 1) := by decide +kernel
theorem dL_law_862 : decode cL_law 862 = .ok (.iconst 3, 1) := by decide +kernel
theorem dL_law_863 : decode cL_law 863 = .ok (.iadd, 1) := by decide +kernel
theorem dL_law_864 : decode cL_law 864 = .ok (.iaload, 1) := by decide +kernel
theorem dL_law_865 : decode cL_law 865 = .ok (.aload_n 0, 1) := by decide +kernel
theorem dL_law_866 : decode cL_law 866 = .ok (.iload_n 3, 1) := by decide +kernel
theorem dL_law_867 : decode cL_law 867 = .ok (.iconst 4, 1) := by decide +kernel
theorem dL_law_868 : decode cL_law 868 = .ok (.iadd, 1) := by decide +kernel
theorem dL_law_869 : decode cL_law 869 = .ok (.iaload, 1) := by decide +kernel
theorem dL_law_870 : decode cL_law 870 = .ok (.invokevirtual 106, 3) := by decide +kernel
theorem dL_law_873 : decode cL_law 873 = .ok (.aload_n 2, 1) := by decide +kernel
theorem dL_law_874 : decode cL_law 874 = .ok (.aload_n 0, 1) := by decide +kernel
theorem dL_law_875 : decode cL_law 875 = .ok (.iload_n 3, 1) := by decide +kernel
theorem dL_law_876 : decode cL_law 876 = .ok (.iconst 1, 1) := by decide +kernel
theorem dL_law_877 : decode cL_law 877 = .ok (.iadd, 1) := by decide +kernel
theorem dL_law_878 : decode cL_law 878 = .ok (.iaload, 1) := by decide +kernel
theorem dL_law_879 : decode cL_law 879 = .ok (.aload_n 0, 1) := by decide +kernel
theorem dL_law_880 : decode cL_law 880 = .ok (.iload_n 3, 1) := by decide +kernel
theorem dL_law_881 : decode cL_law 881 = .ok (.iconst 2, 1) := by decide +kernel
theorem dL_law_882 : decode cL_law 882 = .ok (.iadd, 1) := by decide +kernel
theorem dL_law_883 : decode cL_law 883 = .ok (.iaload, 1) := by decide +kernel
theorem dL_law_884 : decode cL_law 884 = .ok (.aload_n 0, 1) := by decide +kernel
theorem dL_law_885 : decode cL_law 885 = .ok (.iload_n 3, 1) := by decide +kernel
theorem dL_law_886 : decode cL_law 886 = .ok (.iconst 3, 1) := by decide +kernel
theorem dL_law_887 : decode cL_law 887 = .ok (.iadd, 1) := by decide +kernel
theorem dL_law_888 : decode cL_law 888 = .ok (.iaload, 1) := by decide +kernel
theorem dL_law_889 : decode cL_law 889 = .ok (.aload_n 0, 1) := by decide +kernel
theorem dL_law_890 : decode cL_law 890 = .ok (.iload_n 3, 1) := by decide +kernel
theorem dL_law_891 : decode cL_law 891 = .ok (.iconst 4, 1) := by decide +kernel
theorem dL_law_892 : decode cL_law 892 = .ok (.iadd, 1) := by decide +kernel
theorem dL_law_893 : decode cL_law 893 = .ok (.iaload, 1) := by decide +kernel
theorem dL_law_894 : decode cL_law 894 = .ok (.invokevirtual 109, 3) := by decide +kernel
theorem dL_law_897 : decode cL_law 897 = .ok (.if_icmp .eq 81, 3) := by decide +kernel
theorem dL_law_900 : decode cL_law 900 = .ok (.iconst 0, 1) := by decide +kernel
theorem dL_law_901 : decode cL_law 901 = .ok (.ireturn, 1) := by decide +kernel
theorem dL_law_902 : decode cL_law 902 = .ok (.aload_n 1, 1) := by decide +kernel
theorem dL_law_903 : decode cL_law 903 = .ok (.aload_n 0, 1) := by decide +kernel
theorem dL_law_904 : decode cL_law 904 = .ok (.iload_n 3, 1) := by decide +kernel
theorem dL_law_905 : decode cL_law 905 = .ok (.iconst 1, 1) := by decide +kernel
theorem dL_law_906 : decode cL_law 906 = .ok (.iadd, 1) := by decide +kernel
theorem dL_law_907 : decode cL_law 907 = .ok (.iaload, 1) := by decide +kernel
theorem dL_law_908 : decode cL_law 908 = .ok (.aload_n 0, 1) := by decide +kernel
theorem dL_law_909 : decode cL_law 909 = .ok (.iload_n 3, 1) := by decide +kernel
theorem dL_law_910 : decode cL_law 910 = .ok (.iconst 2, 1) := by decide +kernel
theorem dL_law_911 : decode cL_law 911 = .ok (.iadd, 1) := by decide +kernel
theorem dL_law_912 : decode cL_law 912 = .ok (.iaload, 1) := by decide +kernel
theorem dL_law_913 : decode cL_law 913 = .ok (.invokevirtual 110, 3) := by decide +kernel
theorem dL_law_916 : decode cL_law 916 = .ok (.aload_n 2, 1) := by decide +kernel
theorem dL_law_917 : decode cL_law 917 = .ok (.aload_n 0, 1) := by decide +kernel
theorem dL_law_918 : decode cL_law 918 = .ok (.iload_n 3, 1) := by decide +kernel
theorem dL_law_919 : decode cL_law 919 = .ok (.iconst 1, 1) := by decide +kernel
theorem dL_law_920 : decode cL_law 920 = .ok (.iadd, 1) := by decide +kernel
theorem dL_law_921 : decode cL_law 921 = .ok (.iaload, 1) := by decide +kernel
theorem dL_law_922 : decode cL_law 922 = .ok (.aload_n 0, 1) := by decide +kernel
theorem dL_law_923 : decode cL_law 923 = .ok (.iload_n 3, 1) := by decide +kernel
theorem dL_law_924 : decode cL_law 924 = .ok (.iconst 2, 1) := by decide +kernel
theorem dL_law_925 : decode cL_law 925 = .ok (.iadd, 1) := by decide +kernel
theorem dL_law_926 : decode cL_law 926 = .ok (.iaload, 1) := by decide +kernel
theorem dL_law_927 : decode cL_law 927 = .ok (.invokevirtual 113, 3) := by decide +kernel
theorem dL_law_930 : decode cL_law 930 = .ok (.if_icmp .eq 48, 3) := by decide +kernel
theorem dL_law_933 : decode cL_law 933 = .ok (.iconst 0, 1) := by decide +kernel
theorem dL_law_934 : decode cL_law 934 = .ok (.ireturn, 1) := by decide +kernel
theorem dL_law_935 : decode cL_law 935 = .ok (.aload_n 1, 1) := by decide +kernel
theorem dL_law_936 : decode cL_law 936 = .ok (.aload_n 0, 1) := by decide +kernel
theorem dL_law_937 : decode cL_law 937 = .ok (.iload_n 3, 1) := by decide +kernel
theorem dL_law_938 : decode cL_law 938 = .ok (.iconst 1, 1) := by decide +kernel
theorem dL_law_939 : decode cL_law 939 = .ok (.iadd, 1) := by decide +kernel
theorem dL_law_940 : decode cL_law 940 = .ok (.iaload, 1) := by decide +kernel
theorem dL_law_941 : decode cL_law 941 = .ok (.aload_n 0, 1) := by decide +kernel
theorem dL_law_942 : decode cL_law 942 = .ok (.iload_n 3, 1) := by decide +kernel
theorem dL_law_943 : decode cL_law 943 = .ok (.iconst 2, 1) := by decide +kernel
theorem dL_law_944 : decode cL_law 944 = .ok (.iadd, 1) := by decide +kernel
theorem dL_law_945 : decode cL_law 945 = .ok (.iaload, 1) := by decide +kernel
theorem dL_law_946 : decode cL_law 946 = .ok (.aload_n 0, 1) := by decide +kernel
theorem dL_law_947 : decode cL_law 947 = .ok (.iload_n 3, 1) := by decide +kernel
theorem dL_law_948 : decode cL_law 948 = .ok (.iconst 3, 1) := by decide +kernel
theorem dL_law_949 : decode cL_law 949 = .ok (.iadd, 1) := by decide +kernel
theorem dL_law_950 : decode cL_law 950 = .ok (.iaload, 1) := by decide +kernel
theorem dL_law_951 : decode cL_law 951 = .ok (.invokevirtual 114, 3) := by decide +kernel
theorem dL_law_954 : decode cL_law 954 = .ok (.aload_n 2, 1) := by decide +kernel
theorem dL_law_955 : decode cL_law 955 = .ok (.aload_n 0, 1) := by decide +kernel
theorem dL_law_956 : decode cL_law 956 = .ok (.iload_n 3, 1) := by decide +kernel
theorem dL_law_957 : decode cL_law 957 = .ok (.iconst 1, 1) := by decide +kernel
theorem dL_law_958 : decode cL_law 958 = .ok (.iadd, 1) := by decide +kernel
theorem dL_law_959 : decode cL_law 959 = .ok (.iaload, 1) := by decide +kernel
theorem dL_law_960 : decode cL_law 960 = .ok (.aload_n 0, 1) := by decide +kernel
theorem dL_law_961 : decode cL_law 961 = .ok (.iload_n 3, 1) := by decide +kernel
theorem dL_law_962 : decode cL_law 962 = .ok (.iconst 2, 1) := by decide +kernel
theorem dL_law_963 : decode cL_law 963 = .ok (.iadd, 1) := by decide +kernel
theorem dL_law_964 : decode cL_law 964 = .ok (.iaload, 1) := by decide +kernel
theorem dL_law_965 : decode cL_law 965 = .ok (.aload_n 0, 1) := by decide +kernel
theorem dL_law_966 : decode cL_law 966 = .ok (.iload_n 3, 1) := by decide +kernel
theorem dL_law_967 : decode cL_law 967 = .ok (.iconst 3, 1) := by decide +kernel
theorem dL_law_968 : decode cL_law 968 = .ok (.iadd, 1) := by decide +kernel
theorem dL_law_969 : decode cL_law 969 = .ok (.iaload, 1) := by decide +kernel
theorem dL_law_970 : decode cL_law 970 = .ok (.invokevirtual 117, 3) := by decide +kernel
theorem dL_law_973 : decode cL_law 973 = .ok (.if_icmp .eq 5, 3) := by decide +kernel
theorem dL_law_976 : decode cL_law 976 = .ok (.iconst 0, 1) := by decide +kernel
theorem dL_law_977 : decode cL_law 977 = .ok (.ireturn, 1) := by decide +kernel
theorem dL_law_978 : decode cL_law 978 = .ok (.iinc 3 8, 3) := by decide +kernel
theorem dL_law_981 : decode cL_law 981 = .ok (.goto (-963), 3) := by decide +kernel
theorem dL_law_984 : decode cL_law 984 = .ok (.iconst 1, 1) := by decide +kernel
theorem dL_law_985 : decode cL_law 985 = .ok (.ireturn, 1) := by decide +kernel
