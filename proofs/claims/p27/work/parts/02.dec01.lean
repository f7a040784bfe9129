theorem dX8_rowOf_27 : decode cX8_rowOf 27 = .ok (.ifnull 13, 3) := by decide +kernel
theorem dX8_rowOf_30 : decode cX8_rowOf 30 = .ok (.aload_n 3, 1) := by decide +kernel
theorem dX8_rowOf_31 : decode cX8_rowOf 31 = .ok (.getfield 22, 3) := by decide +kernel
theorem dX8_rowOf_34 : decode cX8_rowOf 34 = .ok (.iload_n 1, 1) := by decide +kernel
theorem dX8_rowOf_35 : decode cX8_rowOf 35 = .ok (.if_icmp .ne 5, 3) := by decide +kernel
theorem dX8_rowOf_38 : decode cX8_rowOf 38 = .ok (.aload_n 3, 1) := by decide +kernel
theorem dX8_rowOf_39 : decode cX8_rowOf 39 = .ok (.areturn, 1) := by decide +kernel
theorem dX8_rowOf_40 : decode cX8_rowOf 40 = .ok (.iinc 2 1, 3) := by decide +kernel
theorem dX8_rowOf_43 : decode cX8_rowOf 43 = .ok (.goto (-41), 3) := by decide +kernel
theorem dX8_rowOf_46 : decode cX8_rowOf 46 = .ok (.aconst_null, 1) := by decide +kernel
theorem dX8_rowOf_47 : decode cX8_rowOf 47 = .ok (.areturn, 1) := by decide +kernel
theorem dX8_take_0 : decode cX8_take 0 = .ok (.aload_n 0, 1) := by decide +kernel
theorem dX8_take_1 : decode cX8_take 1 = .ok (.getfield 18, 3) := by decide +kernel
theorem dX8_take_4 : decode cX8_take 4 = .ok (.ifCond .lt 15, 3) := by decide +kernel
theorem dX8_take_7 : decode cX8_take 7 = .ok (.aload_n 0, 1) := by decide +kernel
theorem dX8_take_8 : decode cX8_take 8 = .ok (.getfield 18, 3) := by decide +kernel
theorem dX8_take_11 : decode cX8_take 11 = .ok (.aload_n 0, 1) := by decide +kernel
theorem dX8_take_12 : decode cX8_take 12 = .ok (.getfield 11, 3) := by decide +kernel
theorem dX8_take_15 : decode cX8_take 15 = .ok (.arraylength, 1) := by decide +kernel
theorem dX8_take_16 : decode cX8_take 16 = .ok (.if_icmp .lt 4, 3) := by decide +kernel
theorem dX8_take_19 : decode cX8_take 19 = .ok (.return_, 1) := by decide +kernel
theorem dX8_take_20 : decode cX8_take 20 = .ok (.aload_n 0, 1) := by decide +kernel
theorem dX8_take_21 : decode cX8_take 21 = .ok (.getfield 11, 3) := by decide +kernel
theorem dX8_take_24 : decode cX8_take 24 = .ok (.aload_n 0, 1) := by decide +kernel
theorem dX8_take_25 : decode cX8_take 25 = .ok (.getfield 18, 3) := by decide +kernel
theorem dX8_take_28 : decode cX8_take 28 = .ok (.aaload, 1) := by decide +kernel
theorem dX8_take_29 : decode cX8_take 29 = .ok (.astore_n 2, 1) := by decide +kernel
theorem dX8_take_30 : decode cX8_take 30 = .ok (.aload_n 2, 1) := by decide +kernel
theorem dX8_take_31 : decode cX8_take 31 = .ok (.ifnonnull 4, 3) := by decide +kernel
theorem dX8_take_34 : decode cX8_take 34 = .ok (.return_, 1) := by decide +kernel
theorem dX8_take_35 : decode cX8_take 35 = .ok (.aload_n 2, 1) := by decide +kernel
theorem dX8_take_36 : decode cX8_take 36 = .ok (.aload_n 1, 1) := by decide +kernel
theorem dX8_take_37 : decode cX8_take 37 = .ok (.invokevirtual 25, 3) := by decide +kernel
theorem dX8_take_40 : decode cX8_take 40 = .ok (.aload_n 0, 1) := by decide +kernel
theorem dX8_take_41 : decode cX8_take 41 = .ok (.getfield 18, 3) := by decide +kernel
theorem dX8_take_44 : decode cX8_take 44 = .ok (.istore_n 3, 1) := by decide +kernel
theorem dX8_take_45 : decode cX8_take 45 = .ok (.iload_n 3, 1) := by decide +kernel
theorem dX8_take_46 : decode cX8_take 46 = .ok (.ifCond .le 47, 3) := by decide +kernel
theorem dX8_take_49 : decode cX8_take 49 = .ok (.aload_n 0, 1) := by decide +kernel
theorem dX8_take_50 : decode cX8_take 50 = .ok (.getfield 11, 3) := by decide +kernel
theorem dX8_take_53 : decode cX8_take 53 = .ok (.iload_n 3, 1) := by decide +kernel
theorem dX8_take_54 : decode cX8_take 54 = .ok (.iconst 1, 1) := by decide +kernel
theorem dX8_take_55 : decode cX8_take 55 = .ok (.isub, 1) := by decide +kernel
theorem dX8_take_56 : decode cX8_take 56 = .ok (.aaload, 1) := by decide +kernel
theorem dX8_take_57 : decode cX8_take 57 = .ok (.astore 4, 2) := by decide +kernel
theorem dX8_take_59 : decode cX8_take 59 = .ok (.aload 4, 2) := by decide +kernel
theorem dX8_take_61 : decode cX8_take 61 = .ok (.ifnull 32, 3) := by decide +kernel
theorem dX8_take_64 : decode cX8_take 64 = .ok (.aload 4, 2) := by decide +kernel
theorem dX8_take_66 : decode cX8_take 66 = .ok (.getfield 22, 3) := by decide +kernel
theorem dX8_take_69 : decode cX8_take 69 = .ok (.aload_n 1, 1) := by decide +kernel
theorem dX8_take_70 : decode cX8_take 70 = .ok (.getfield 22, 3) := by decide +kernel
theorem dX8_take_73 : decode cX8_take 73 = .ok (.if_icmp .ge 6, 3) := by decide +kernel
theorem dX8_take_76 : decode cX8_take 76 = .ok (.goto 17, 3) := by decide +kernel
theorem dX8_take_79 : decode cX8_take 79 = .ok (.aload_n 0, 1) := by decide +kernel
theorem dX8_take_80 : decode cX8_take 80 = .ok (.getfield 11, 3) := by decide +kernel
theorem dX8_take_83 : decode cX8_take 83 = .ok (.iload_n 3, 1) := by decide +kernel
theorem dX8_take_84 : decode cX8_take 84 = .ok (.aload 4, 2) := by decide +kernel
theorem dX8_take_86 : decode cX8_take 86 = .ok (.aastore, 1) := by decide +kernel
theorem dX8_take_87 : decode cX8_take 87 = .ok (.iinc 3 (-1), 3) := by decide +kernel
theorem dX8_take_90 : decode cX8_take 90 = .ok (.goto (-45), 3) := by decide +kernel
theorem dX8_take_93 : decode cX8_take 93 = .ok (.aload_n 0, 1) := by decide +kernel
theorem dX8_take_94 : decode cX8_take 94 = .ok (.getfield 11, 3) := by decide +kernel
theorem dX8_take_97 : decode cX8_take 97 = .ok (.iload_n 3, 1) := by decide +kernel
theorem dX8_take_98 : decode cX8_take 98 = .ok (.aload_n 2, 1) := by decide +kernel
theorem dX8_take_99 : decode cX8_take 99 = .ok (.aastore, 1) := by decide +kernel
theorem dX8_take_100 : decode cX8_take 100 = .ok (.aload_n 0, 1) := by decide +kernel
theorem dX8_take_101 : decode cX8_take 101 = .ok (.dup, 1) := by decide +kernel
theorem dX8_take_102 : decode cX8_take 102 = .ok (.getfield 18, 3) := by decide +kernel
theorem dX8_take_105 : decode cX8_take 105 = .ok (.iconst 1, 1) := by decide +kernel
theorem dX8_take_106 : decode cX8_take 106 = .ok (.iadd, 1) := by decide +kernel
theorem dX8_take_107 : decode cX8_take 107 = .ok (.putfield 18, 3) := by decide +kernel
theorem dX8_take_110 : decode cX8_take 110 = .ok (.return_, 1) := by decide +kernel
theorem dX8_drop_0 : decode cX8_drop 0 = .ok (.aconst_null, 1) := by decide +kernel
theorem dX8_drop_1 : decode cX8_drop 1 = .ok (.astore_n 2, 1) := by decide +kernel
theorem dX8_drop_2 : decode cX8_drop 2 = .ok (.iconst 0, 1) := by decide +kernel
theorem dX8_drop_3 : decode cX8_drop 3 = .ok (.istore_n 3, 1) := by decide +kernel
theorem dX8_drop_4 : decode cX8_drop 4 = .ok (.iload_n 3, 1) := by decide +kernel
theorem dX8_drop_5 : decode cX8_drop 5 = .ok (.aload_n 0, 1) := by decide +kernel
theorem dX8_drop_6 : decode cX8_drop 6 = .ok (.getfield 18, 3) := by decide +kernel
theorem dX8_drop_9 : decode cX8_drop 9 = .ok (.if_icmp .ge 90, 3) := by decide +kernel
theorem dX8_drop_12 : decode cX8_drop 12 = .ok (.iload_n 3, 1) := by decide +kernel
theorem dX8_drop_13 : decode cX8_drop 13 = .ok (.aload_n 0, 1) := by decide +kernel
theorem dX8_drop_14 : decode cX8_drop 14 = .ok (.getfield 11, 3) := by decide +kernel
theorem dX8_drop_17 : decode cX8_drop 17 = .ok (.arraylength, 1) := by decide +kernel
theorem dX8_drop_18 : decode cX8_drop 18 = .ok (.if_icmp .ge 81, 3) := by decide +kernel
theorem dX8_drop_21 : decode cX8_drop 21 = .ok (.aload_n 0, 1) := by decide +kernel
theorem dX8_drop_22 : decode cX8_drop 22 = .ok (.getfield 11, 3) := by decide +kernel
theorem dX8_drop_25 : decode cX8_drop 25 = .ok (.iload_n 3, 1) := by decide +kernel
theorem dX8_drop_26 : decode cX8_drop 26 = .ok (.aaload, 1) := by decide +kernel
theorem dX8_drop_27 : decode cX8_drop 27 = .ok (.astore 4, 2) := by decide +kernel
theorem dX8_drop_29 : decode cX8_drop 29 = .ok (.aload_n 2, 1) := by decide +kernel
theorem dX8_drop_30 : decode cX8_drop 30 = .ok (.ifnonnull 20, 3) := by decide +kernel
theorem dX8_drop_33 : decode cX8_drop 33 = .ok (.aload 4, 2) := by decide +kernel
theorem dX8_drop_35 : decode cX8_drop 35 = .ok (.ifnull 15, 3) := by decide +kernel
theorem dX8_drop_38 : decode cX8_drop 38 = .ok (.aload 4, 2) := by decide +kernel
theorem dX8_drop_40 : decode cX8_drop 40 = .ok (.getfield 22, 3) := by decide +kernel
theorem dX8_drop_43 : decode cX8_drop 43 = .ok (.iload_n 1, 1) := by decide +kernel
theorem dX8_drop_44 : decode cX8_drop 44 = .ok (.if_icmp .ne 6, 3) := by decide +kernel
theorem dX8_drop_47 : decode cX8_drop 47 = .ok (.aload 4, 2) := by decide +kernel
theorem dX8_drop_49 : decode cX8_drop 49 = .ok (.astore_n 2, 1) := by decide +kernel
theorem dX8_drop_50 : decode cX8_drop 50 = .ok (.aload_n 2, 1) := by decide +kernel
theorem dX8_drop_51 : decode cX8_drop 51 = .ok (.ifnull 42, 3) := by decide +kernel
theorem dX8_drop_54 : decode cX8_drop 54 = .ok (.aload_n 0, 1) := by decide +kernel
theorem dX8_drop_55 : decode cX8_drop 55 = .ok (.getfield 11, 3) := by decide +kernel
theorem dX8_drop_58 : decode cX8_drop 58 = .ok (.iload_n 3, 1) := by decide +kernel
theorem dX8_drop_59 : decode cX8_drop 59 = .ok (.iload_n 3, 1) := by decide +kernel
theorem dX8_drop_60 : decode cX8_drop 60 = .ok (.iconst 1, 1) := by decide +kernel
theorem dX8_drop_61 : decode cX8_drop 61 = .ok (.iadd, 1) := by decide +kernel
theorem dX8_drop_62 : decode cX8_drop 62 = .ok (.aload_n 0, 1) := by decide +kernel
theorem dX8_drop_63 : decode cX8_drop 63 = .ok (.getfield 18, 3) := by decide +kernel
theorem dX8_drop_66 : decode cX8_drop 66 = .ok (.if_icmp .ge 25, 3) := by decide +kernel
theorem dX8_drop_69 : decode cX8_drop 69 = .ok (.iload_n 3, 1) := by decide +kernel
theorem dX8_drop_70 : decode cX8_drop 70 = .ok (.iconst 1, 1) := by decide +kernel
theorem dX8_drop_71 : decode cX8_drop 71 = .ok (.iadd, 1) := by decide +kernel
theorem dX8_drop_72 : decode cX8_drop 72 = .ok (.aload_n 0, 1) := by decide +kernel
theorem dX8_drop_73 : decode cX8_drop 73 = .ok (.getfield 11, 3) := by decide +kernel
theorem dX8_drop_76 : decode cX8_drop 76 = .ok (.arraylength, 1) := by decide +kernel
theorem dX8_drop_77 : decode cX8_drop 77 = .ok (.if_icmp .ge 14, 3) := by decide +kernel
theorem dX8_drop_80 : decode cX8_drop 80 = .ok (.aload_n 0, 1) := by decide +kernel
theorem dX8_drop_81 : decode cX8_drop 81 = .ok (.getfield 11, 3) := by decide +kernel
theorem dX8_drop_84 : decode cX8_drop 84 = .ok (.iload_n 3, 1) := by decide +kernel
theorem dX8_drop_85 : decode cX8_drop 85 = .ok (.iconst 1, 1) := by decide +kernel
theorem dX8_drop_86 : decode cX8_drop 86 = .ok (.iadd, 1) := by decide +kernel
theorem dX8_drop_87 : decode cX8_drop 87 = .ok (.aaload, 1) := by decide +kernel
theorem dX8_drop_88 : decode cX8_drop 88 = .ok (.goto 4, 3) := by decide +kernel
theorem dX8_drop_91 : decode cX8_drop 91 = .ok (.aload_n 2, 1) := by decide +kernel
theorem dX8_drop_92 : decode cX8_drop 92 = .ok (.aastore, 1) := by decide +kernel
theorem dX8_drop_93 : decode cX8_drop 93 = .ok (.iinc 3 1, 3) := by decide +kernel
theorem dX8_drop_96 : decode cX8_drop 96 = .ok (.goto (-92), 3) := by decide +kernel
theorem dX8_drop_99 : decode cX8_drop 99 = .ok (.aload_n 2, 1) := by decide +kernel
theorem dX8_drop_100 : decode cX8_drop 100 = .ok (.ifnull 13, 3) := by decide +kernel
theorem dX8_drop_103 : decode cX8_drop 103 = .ok (.aload_n 0, 1) := by decide +kernel
theorem dX8_drop_104 : decode cX8_drop 104 = .ok (.dup, 1) := by decide +kernel
theorem dX8_drop_105 : decode cX8_drop 105 = .ok (.getfield 18, 3) := by decide +kernel
theorem dX8_drop_108 : decode cX8_drop 108 = .ok (.iconst 1, 1) := by decide +kernel
theorem dX8_drop_109 : decode cX8_drop 109 = .ok (.isub, 1) := by decide +kernel
theorem dX8_drop_110 : decode cX8_drop 110 = .ok (.putfield 18, 3) := by decide +kernel
theorem dX8_drop_113 : decode cX8_drop 113 = .ok (.return_, 1) := by decide +kernel
theorem dX8_copyFrom_0 : decode cX8_copyFrom 0 = .ok (.aload_n 0, 1) := by decide +kernel
theorem dX8_copyFrom_1 : decode cX8_copyFrom 1 = .ok (.aload_n 1, 1) := by decide +kernel
theorem dX8_copyFrom_2 : decode cX8_copyFrom 2 = .ok (.getfield 18, 3) := by decide +kernel
theorem dX8_copyFrom_5 : decode cX8_copyFrom 5 = .ok (.putfield 18, 3) := by decide +kernel
theorem dX8_copyFrom_8 : decode cX8_copyFrom 8 = .ok (.iconst 0, 1) := by decide +kernel
theorem dX8_copyFrom_9 : decode cX8_copyFrom 9 = .ok (.istore_n 2, 1) := by decide +kernel
theorem dX8_copyFrom_10 : decode cX8_copyFrom 10 = .ok (.iload_n 2, 1) := by decide +kernel
theorem dX8_copyFrom_11 : decode cX8_copyFrom 11 = .ok (.aload_n 0, 1) := by decide +kernel
theorem dX8_copyFrom_12 : decode cX8_copyFrom 12 = .ok (.getfield 18, 3) := by decide +kernel
theorem dX8_copyFrom_15 : decode cX8_copyFrom 15 = .ok (.if_icmp .ge 47, 3) := by decide +kernel
theorem dX8_copyFrom_18 : decode cX8_copyFrom 18 = .ok (.iload_n 2, 1) := by decide +kernel
theorem dX8_copyFrom_19 : decode cX8_copyFrom 19 = .ok (.aload_n 0, 1) := by decide +kernel
theorem dX8_copyFrom_20 : decode cX8_copyFrom 20 = .ok (.getfield 11, 3) := by decide +kernel
theorem dX8_copyFrom_23 : decode cX8_copyFrom 23 = .ok (.arraylength, 1) := by decide +kernel
theorem dX8_copyFrom_24 : decode cX8_copyFrom 24 = .ok (.if_icmp .ge 38, 3) := by decide +kernel
theorem dX8_copyFrom_27 : decode cX8_copyFrom 27 = .ok (.aload_n 0, 1) := by decide +kernel
theorem dX8_copyFrom_28 : decode cX8_copyFrom 28 = .ok (.getfield 11, 3) := by decide +kernel
theorem dX8_copyFrom_31 : decode cX8_copyFrom 31 = .ok (.iload_n 2, 1) := by decide +kernel
theorem dX8_copyFrom_32 : decode cX8_copyFrom 32 = .ok (.aaload, 1) := by decide +kernel
theorem dX8_copyFrom_33 : decode cX8_copyFrom 33 = .ok (.astore_n 3, 1) := by decide +kernel
theorem dX8_copyFrom_34 : decode cX8_copyFrom 34 = .ok (.aload_n 1, 1) := by decide +kernel
theorem dX8_copyFrom_35 : decode cX8_copyFrom 35 = .ok (.iload_n 2, 1) := by decide +kernel
theorem dX8_copyFrom_36 : decode cX8_copyFrom 36 = .ok (.invokevirtual 29, 3) := by decide +kernel
theorem dX8_copyFrom_39 : decode cX8_copyFrom 39 = .ok (.astore 4, 2) := by decide +kernel
theorem dX8_copyFrom_41 : decode cX8_copyFrom 41 = .ok (.aload_n 3, 1) := by decide +kernel
theorem dX8_copyFrom_42 : decode cX8_copyFrom 42 = .ok (.ifnull 14, 3) := by decide +kernel
theorem dX8_copyFrom_45 : decode cX8_copyFrom 45 = .ok (.aload 4, 2) := by decide +kernel
theorem dX8_copyFrom_47 : decode cX8_copyFrom 47 = .ok (.ifnull 9, 3) := by decide +kernel
theorem dX8_copyFrom_50 : decode cX8_copyFrom 50 = .ok (.aload_n 3, 1) := by decide +kernel
theorem dX8_copyFrom_51 : decode cX8_copyFrom 51 = .ok (.aload 4, 2) := by decide +kernel
theorem dX8_copyFrom_53 : decode cX8_copyFrom 53 = .ok (.invokevirtual 25, 3) := by decide +kernel
theorem dX8_copyFrom_56 : decode cX8_copyFrom 56 = .ok (.iinc 2 1, 3) := by decide +kernel
theorem dX8_copyFrom_59 : decode cX8_copyFrom 59 = .ok (.goto (-49), 3) := by decide +kernel
theorem dX8_copyFrom_62 : decode cX8_copyFrom 62 = .ok (.return_, 1) := by decide +kernel
theorem dX9_init_0 : decode cX9_init 0 = .ok (.aload_n 0, 1) := by decide +kernel
theorem dX9_init_1 : decode cX9_init 1 = .ok (.invokespecial 3, 3) := by decide +kernel
theorem dX9_init_4 : decode cX9_init 4 = .ok (.aload_n 0, 1) := by decide +kernel
theorem dX9_init_5 : decode cX9_init 5 = .ok (.bipush 80, 2) := by decide +kernel
theorem dX9_init_7 : decode cX9_init 7 = .ok (.newarray .char, 2) := by decide +kernel
theorem dX9_init_9 : decode cX9_init 9 = .ok (.putfield 9, 3) := by decide +kernel
theorem dX9_init_12 : decode cX9_init 12 = .ok (.return_, 1) := by decide +kernel
theorem dX9_rewind_0 : decode cX9_rewind 0 = .ok (.aload_n 0, 1) := by decide +kernel
theorem dX9_rewind_1 : decode cX9_rewind 1 = .ok (.iconst 0, 1) := by decide +kernel
theorem dX9_rewind_2 : decode cX9_rewind 2 = .ok (.putfield 19, 3) := by decide +kernel
theorem dX9_rewind_5 : decode cX9_rewind 5 = .ok (.aload_n 0, 1) := by decide +kernel
theorem dX9_rewind_6 : decode cX9_rewind 6 = .ok (.iconst 0, 1) := by decide +kernel
theorem dX9_rewind_7 : decode cX9_rewind 7 = .ok (.putfield 22, 3) := by decide +kernel
theorem dX9_rewind_10 : decode cX9_rewind 10 = .ok (.return_, 1) := by decide +kernel
theorem dX9_countStatements_0 : decode cX9_countStatements 0 = .ok (.aload_n 0, 1) := by decide +kernel
theorem dX9_countStatements_1 : decode cX9_countStatements 1 = .ok (.invokevirtual 26, 3) := by decide +kernel
theorem dX9_countStatements_4 : decode cX9_countStatements 4 = .ok (.iconst 0, 1) := by decide +kernel
theorem dX9_countStatements_5 : decode cX9_countStatements 5 = .ok (.istore_n 1, 1) := by decide +kernel
theorem dX9_countStatements_6 : decode cX9_countStatements 6 = .ok (.aload_n 0, 1) := by decide +kernel
theorem dX9_countStatements_7 : decode cX9_countStatements 7 = .ok (.invokevirtual 29, 3) := by decide +kernel
theorem dX9_countStatements_10 : decode cX9_countStatements 10 = .ok (.iinc 1 1, 3) := by decide +kernel
theorem dX9_countStatements_13 : decode cX9_countStatements 13 = .ok (.aload_n 0, 1) := by decide +kernel
theorem dX9_countStatements_14 : decode cX9_countStatements 14 = .ok (.getfield 22, 3) := by decide +kernel
theorem dX9_countStatements_17 : decode cX9_countStatements 17 = .ok (.ifCond .ne 20, 3) := by decide +kernel
theorem dX9_countStatements_20 : decode cX9_countStatements 20 = .ok (.aload_n 0, 1) := by decide +kernel
theorem dX9_countStatements_21 : decode cX9_countStatements 21 = .ok (.getfield 19, 3) := by decide +kernel
theorem dX9_countStatements_24 : decode cX9_countStatements 24 = .ok (.aload_n 0, 1) := by decide +kernel
theorem dX9_countStatements_25 : decode cX9_countStatements 25 = .ok (.getfield 15, 3) := by decide +kernel
theorem dX9_countStatements_28 : decode cX9_countStatements 28 = .ok (.if_icmp .ge 9, 3) := by decide +kernel
theorem dX9_countStatements_31 : decode cX9_countStatements 31 = .ok (.iload_n 1, 1) := by decide +kernel
theorem dX9_countStatements_32 : decode cX9_countStatements 32 = .ok (.bipush 80, 2) := by decide +kernel
theorem dX9_countStatements_34 : decode cX9_countStatements 34 = .ok (.if_icmp .lt (-28), 3) := by decide +kernel
theorem dX9_countStatements_37 : decode cX9_countStatements 37 = .ok (.aload_n 0, 1) := by decide +kernel
theorem dX9_countStatements_38 : decode cX9_countStatements 38 = .ok (.getfield 22, 3) := by decide +kernel
theorem dX9_countStatements_41 : decode cX9_countStatements 41 = .ok (.ifCond .eq 14, 3) := by decide +kernel
theorem dX9_countStatements_44 : decode cX9_countStatements 44 = .ok (.sipush (-2000), 3) := by decide +kernel
theorem dX9_countStatements_47 : decode cX9_countStatements 47 = .ok (.aload_n 0, 1) := by decide +kernel
theorem dX9_countStatements_48 : decode cX9_countStatements 48 = .ok (.getfield 19, 3) := by decide +kernel
theorem dX9_countStatements_51 : decode cX9_countStatements 51 = .ok (.isub, 1) := by decide +kernel
theorem dX9_countStatements_52 : decode cX9_countStatements 52 = .ok (.goto 4, 3) := by decide +kernel
theorem dX9_countStatements_55 : decode cX9_countStatements 55 = .ok (.iload_n 1, 1) := by decide +kernel
theorem dX9_countStatements_56 : decode cX9_countStatements 56 = .ok (.ireturn, 1) := by decide +kernel
theorem dX9_readStatement_0 : decode cX9_readStatement 0 = .ok (.aload_n 0, 1) := by decide +kernel
theorem dX9_readStatement_1 : decode cX9_readStatement 1 = .ok (.getfield 19, 3) := by decide +kernel
theorem dX9_readStatement_4 : decode cX9_readStatement 4 = .ok (.ifCond .le 9, 3) := by decide +kernel
theorem dX9_readStatement_7 : decode cX9_readStatement 7 = .ok (.aload_n 0, 1) := by decide +kernel
theorem dX9_readStatement_8 : decode cX9_readStatement 8 = .ok (.bipush 59, 2) := by decide +kernel
theorem dX9_readStatement_10 : decode cX9_readStatement 10 = .ok (.invokevirtual 32, 3) := by decide +kernel
theorem dX9_readStatement_13 : decode cX9_readStatement 13 = .ok (.aload_n 0, 1) := by decide +kernel
theorem dX9_readStatement_14 : decode cX9_readStatement 14 = .ok (.invokevirtual 36, 3) := by decide +kernel
theorem dX9_readStatement_17 : decode cX9_readStatement 17 = .ok (.lookupswitch 72 #[(100, 49), (105, 35), (117, 42)], 35) := by decide +kernel
theorem dX9_readStatement_52 : decode cX9_readStatement 52 = .ok (.aload_n 0, 1) := by decide +kernel
theorem dX9_readStatement_53 : decode cX9_readStatement 53 = .ok (.invokevirtual 40, 3) := by decide +kernel
theorem dX9_readStatement_56 : decode cX9_readStatement 56 = .ok (.goto 38, 3) := by decide +kernel
theorem dX9_readStatement_59 : decode cX9_readStatement 59 = .ok (.aload_n 0, 1) := by decide +kernel
theorem dX9_readStatement_60 : decode cX9_readStatement 60 = .ok (.invokevirtual 43, 3) := by decide +kernel
theorem dX9_readStatement_63 : decode cX9_readStatement 63 = .ok (.goto 31, 3) := by decide +kernel
theorem dX9_readStatement_66 : decode cX9_readStatement 66 = .ok (.aload_n 0, 1) := by decide +kernel
theorem dX9_readStatement_67 : decode cX9_readStatement 67 = .ok (.iconst 2, 1) := by decide +kernel
theorem dX9_readStatement_68 : decode cX9_readStatement 68 = .ok (.putfield 46, 3) := by decide +kernel
theorem dX9_readStatement_71 : decode cX9_readStatement 71 = .ok (.aload_n 0, 1) := by decide +kernel
theorem dX9_readStatement_72 : decode cX9_readStatement 72 = .ok (.bipush 100, 2) := by decide +kernel
theorem dX9_readStatement_74 : decode cX9_readStatement 74 = .ok (.invokevirtual 32, 3) := by decide +kernel
theorem dX9_readStatement_77 : decode cX9_readStatement 77 = .ok (.aload_n 0, 1) := by decide +kernel
theorem dX9_readStatement_78 : decode cX9_readStatement 78 = .ok (.aload_n 0, 1) := by decide +kernel
theorem dX9_readStatement_79 : decode cX9_readStatement 79 = .ok (.iconst 2, 1) := by decide +kernel
theorem dX9_readStatement_80 : decode cX9_readStatement 80 = .ok (.invokevirtual 49, 3) := by decide +kernel
theorem dX9_readStatement_83 : decode cX9_readStatement 83 = .ok (.putfield 53, 3) := by decide +kernel
theorem dX9_readStatement_86 : decode cX9_readStatement 86 = .ok (.goto 8, 3) := by decide +kernel
theorem dX9_readStatement_89 : decode cX9_readStatement 89 = .ok (.aload_n 0, 1) := by decide +kernel
theorem dX9_readStatement_90 : decode cX9_readStatement 90 = .ok (.iconst 1, 1) := by decide +kernel
theorem dX9_readStatement_91 : decode cX9_readStatement 91 = .ok (.putfield 22, 3) := by decide +kernel
theorem dX9_readStatement_94 : decode cX9_readStatement 94 = .ok (.return_, 1) := by decide +kernel
theorem dX9_readInsert_0 : decode cX9_readInsert 0 = .ok (.aload_n 0, 1) := by decide +kernel
theorem dX9_readInsert_1 : decode cX9_readInsert 1 = .ok (.iconst 0, 1) := by decide +kernel
theorem dX9_readInsert_2 : decode cX9_readInsert 2 = .ok (.putfield 46, 3) := by decide +kernel
theorem dX9_readInsert_5 : decode cX9_readInsert 5 = .ok (.aload_n 0, 1) := by decide +kernel
theorem dX9_readInsert_6 : decode cX9_readInsert 6 = .ok (.bipush 105, 2) := by decide +kernel
theorem dX9_readInsert_8 : decode cX9_readInsert 8 = .ok (.invokevirtual 32, 3) := by decide +kernel
theorem dX9_readInsert_11 : decode cX9_readInsert 11 = .ok (.aload_n 0, 1) := by decide +kernel
theorem dX9_readInsert_12 : decode cX9_readInsert 12 = .ok (.aload_n 0, 1) := by decide +kernel
theorem dX9_readInsert_13 : decode cX9_readInsert 13 = .ok (.iconst 2, 1) := by decide +kernel
theorem dX9_readInsert_14 : decode cX9_readInsert 14 = .ok (.invokevirtual 49, 3) := by decide +kernel
theorem dX9_readInsert_17 : decode cX9_readInsert 17 = .ok (.putfield 53, 3) := by decide +kernel
theorem dX9_readInsert_20 : decode cX9_readInsert 20 = .ok (.aload_n 0, 1) := by decide +kernel
theorem dX9_readInsert_21 : decode cX9_readInsert 21 = .ok (.bipush 61, 2) := by decide +kernel
theorem dX9_readInsert_23 : decode cX9_readInsert 23 = .ok (.invokevirtual 32, 3) := by decide +kernel
theorem dX9_readInsert_26 : decode cX9_readInsert 26 = .ok (.aload_n 0, 1) := by decide +kernel
theorem dX9_readInsert_27 : decode cX9_readInsert 27 = .ok (.aload_n 0, 1) := by decide +kernel
theorem dX9_readInsert_28 : decode cX9_readInsert 28 = .ok (.invokevirtual 56, 3) := by decide +kernel
theorem dX9_readInsert_31 : decode cX9_readInsert 31 = .ok (.putfield 59, 3) := by decide +kernel
theorem dX9_readInsert_34 : decode cX9_readInsert 34 = .ok (.aload_n 0, 1) := by decide +kernel
theorem dX9_readInsert_35 : decode cX9_readInsert 35 = .ok (.bipush 44, 2) := by decide +kernel
theorem dX9_readInsert_37 : decode cX9_readInsert 37 = .ok (.invokevirtual 32, 3) := by decide +kernel
theorem dX9_readInsert_40 : decode cX9_readInsert 40 = .ok (.aload_n 0, 1) := by decide +kernel
theorem dX9_readInsert_41 : decode cX9_readInsert 41 = .ok (.aload_n 0, 1) := by decide +kernel
theorem dX9_readInsert_42 : decode cX9_readInsert 42 = .ok (.invokevirtual 56, 3) := by decide +kernel
theorem dX9_readInsert_45 : decode cX9_readInsert 45 = .ok (.putfield 62, 3) := by decide +kernel
theorem dX9_readInsert_48 : decode cX9_readInsert 48 = .ok (.aload_n 0, 1) := by decide +kernel
theorem dX9_readInsert_49 : decode cX9_readInsert 49 = .ok (.bipush 44, 2) := by decide +kernel
theorem dX9_readInsert_51 : decode cX9_readInsert 51 = .ok (.invokevirtual 32, 3) := by decide +kernel
theorem dX9_readInsert_54 : decode cX9_readInsert 54 = .ok (.aload_n 0, 1) := by decide +kernel
theorem dX9_readInsert_55 : decode cX9_readInsert 55 = .ok (.aload_n 0, 1) := by decide +kernel
theorem dX9_readInsert_56 : decode cX9_readInsert 56 = .ok (.invokevirtual 56, 3) := by decide +kernel
theorem dX9_readInsert_59 : decode cX9_readInsert 59 = .ok (.putfield 65, 3) := by decide +kernel
theorem dX9_readInsert_62 : decode cX9_readInsert 62 = .ok (.return_, 1) := by decide +kernel
theorem dX9_readUpdate_0 : decode cX9_readUpdate 0 = .ok (.aload_n 0, 1) := by decide +kernel
theorem dX9_readUpdate_1 : decode cX9_readUpdate 1 = .ok (.iconst 1, 1) := by decide +kernel
theorem dX9_readUpdate_2 : decode cX9_readUpdate 2 = .ok (.putfield 46, 3) := by decide +kernel
theorem dX9_readUpdate_5 : decode cX9_readUpdate 5 = .ok (.aload_n 0, 1) := by decide +kernel
theorem dX9_readUpdate_6 : decode cX9_readUpdate 6 = .ok (.bipush 117, 2) := by decide +kernel
theorem dX9_readUpdate_8 : decode cX9_readUpdate 8 = .ok (.invokevirtual 32, 3) := by decide +kernel
theorem dX9_readUpdate_11 : decode cX9_readUpdate 11 = .ok (.aload_n 0, 1) := by decide +kernel
theorem dX9_readUpdate_12 : decode cX9_readUpdate 12 = .ok (.aload_n 0, 1) := by decide +kernel
theorem dX9_readUpdate_13 : decode cX9_readUpdate 13 = .ok (.iconst 2, 1) := by decide +kernel
theorem dX9_readUpdate_14 : decode cX9_readUpdate 14 = .ok (.invokevirtual 49, 3) := by decide +kernel
theorem dX9_readUpdate_17 : decode cX9_readUpdate 17 = .ok (.putfield 53, 3) := by decide +kernel
theorem dX9_readUpdate_20 : decode cX9_readUpdate 20 = .ok (.aload_n 0, 1) := by decide +kernel
theorem dX9_readUpdate_21 : decode cX9_readUpdate 21 = .ok (.bipush 46, 2) := by decide +kernel
theorem dX9_readUpdate_23 : decode cX9_readUpdate 23 = .ok (.invokevirtual 32, 3) := by decide +kernel
theorem dX9_readUpdate_26 : decode cX9_readUpdate 26 = .ok (.aload_n 0, 1) := by decide +kernel
theorem dX9_readUpdate_27 : decode cX9_readUpdate 27 = .ok (.aload_n 0, 1) := by decide +kernel
theorem dX9_readUpdate_28 : decode cX9_readUpdate 28 = .ok (.iconst 2, 1) := by decide +kernel
theorem dX9_readUpdate_29 : decode cX9_readUpdate 29 = .ok (.invokevirtual 68, 3) := by decide +kernel
theorem dX9_readUpdate_32 : decode cX9_readUpdate 32 = .ok (.putfield 71, 3) := by decide +kernel
theorem dX9_readUpdate_35 : decode cX9_readUpdate 35 = .ok (.aload_n 0, 1) := by decide +kernel
theorem dX9_readUpdate_36 : decode cX9_readUpdate 36 = .ok (.bipush 61, 2) := by decide +kernel
theorem dX9_readUpdate_38 : decode cX9_readUpdate 38 = .ok (.invokevirtual 32, 3) := by decide +kernel
theorem dX9_readUpdate_41 : decode cX9_readUpdate 41 = .ok (.aload_n 0, 1) := by decide +kernel
theorem dX9_readUpdate_42 : decode cX9_readUpdate 42 = .ok (.aload_n 0, 1) := by decide +kernel
theorem dX9_readUpdate_43 : decode cX9_readUpdate 43 = .ok (.invokevirtual 56, 3) := by decide +kernel
theorem dX9_readUpdate_46 : decode cX9_readUpdate 46 = .ok (.putfield 59, 3) := by decide +kernel
theorem dX9_readUpdate_49 : decode cX9_readUpdate 49 = .ok (.return_, 1) := by decide +kernel
theorem dX9_readValue_0 : decode cX9_readValue 0 = .ok (.aload_n 0, 1) := by decide +kernel
theorem dX9_readValue_1 : decode cX9_readValue 1 = .ok (.invokevirtual 36, 3) := by decide +kernel
theorem dX9_readValue_4 : decode cX9_readValue 4 = .ok (.bipush 45, 2) := by decide +kernel
theorem dX9_readValue_6 : decode cX9_readValue 6 = .ok (.if_icmp .ne 20, 3) := by decide +kernel
theorem dX9_readValue_9 : decode cX9_readValue 9 = .ok (.aload_n 0, 1) := by decide +kernel
theorem dX9_readValue_10 : decode cX9_readValue 10 = .ok (.dup, 1) := by decide +kernel
theorem dX9_readValue_11 : decode cX9_readValue 11 = .ok (.getfield 19, 3) := by decide +kernel
theorem dX9_readValue_14 : decode cX9_readValue 14 = .ok (.iconst 1, 1) := by decide +kernel
theorem dX9_readValue_15 : decode cX9_readValue 15 = .ok (.iadd, 1) := by decide +kernel
theorem dX9_readValue_16 : decode cX9_readValue 16 = .ok (.putfield 19, 3) := by decide +kernel
theorem dX9_readValue_19 : decode cX9_readValue 19 = .ok (.aload_n 0, 1) := by decide +kernel
theorem dX9_readValue_20 : decode cX9_readValue 20 = .ok (.iconst 3, 1) := by decide +kernel
theorem dX9_readValue_21 : decode cX9_readValue 21 = .ok (.invokevirtual 49, 3) := by decide +kernel
theorem dX9_readValue_24 : decode cX9_readValue 24 = .ok (.ineg, 1) := by decide +kernel
theorem dX9_readValue_25 : decode cX9_readValue 25 = .ok (.ireturn, 1) := by decide +kernel
theorem dX9_readValue_26 : decode cX9_readValue 26 = .ok (.aload_n 0, 1) := by decide +kernel
theorem dX9_readValue_27 : decode cX9_readValue 27 = .ok (.iconst 3, 1) := by decide +kernel
theorem dX9_readValue_28 : decode cX9_readValue 28 = .ok (.invokevirtual 49, 3) := by decide +kernel
theorem dX9_readValue_31 : decode cX9_readValue 31 = .ok (.ireturn, 1) := by decide +kernel
theorem dX9_readNumber_0 : decode cX9_readNumber 0 = .ok (.aload_n 0, 1) := by decide +kernel
theorem dX9_readNumber_1 : decode cX9_readNumber 1 = .ok (.bipush 9, 2) := by decide +kernel
theorem dX9_readNumber_3 : decode cX9_readNumber 3 = .ok (.invokevirtual 68, 3) := by decide +kernel
theorem dX9_readNumber_6 : decode cX9_readNumber 6 = .ok (.istore_n 2, 1) := by decide +kernel
theorem dX9_readNumber_7 : decode cX9_readNumber 7 = .ok (.iconst 1, 1) := by decide +kernel
theorem dX9_readNumber_8 : decode cX9_readNumber 8 = .ok (.istore_n 3, 1) := by decide +kernel
theorem dX9_readNumber_9 : decode cX9_readNumber 9 = .ok (.iload_n 3, 1) := by decide +kernel
theorem dX9_readNumber_10 : decode cX9_readNumber 10 = .ok (.iload_n 1, 1) := by decide +kernel
theorem dX9_readNumber_11 : decode cX9_readNumber 11 = .ok (.if_icmp .ge 37, 3) := by decide +kernel
theorem dX9_readNumber_14 : decode cX9_readNumber 14 = .ok (.iload_n 2, 1) := by decide +kernel
theorem dX9_readNumber_15 : decode cX9_readNumber 15 = .ok (.ifCond .le 33, 3) := by decide +kernel
theorem dX9_readNumber_18 : decode cX9_readNumber 18 = .ok (.aload_n 0, 1) := by decide +kernel
theorem dX9_readNumber_19 : decode cX9_readNumber 19 = .ok (.invokevirtual 36, 3) := by decide +kernel
theorem dX9_readNumber_22 : decode cX9_readNumber 22 = .ok (.bipush 9, 2) := by decide +kernel
theorem dX9_readNumber_24 : decode cX9_readNumber 24 = .ok (.invokestatic 74, 3) := by decide +kernel
theorem dX9_readNumber_27 : decode cX9_readNumber 27 = .ok (.ifCond .eq 21, 3) := by decide +kernel
theorem dX9_readNumber_30 : decode cX9_readNumber 30 = .ok (.iload_n 2, 1) := by decide +kernel
theorem dX9_readNumber_31 : decode cX9_readNumber 31 = .ok (.bipush 10, 2) := by decide +kernel
theorem dX9_readNumber_33 : decode cX9_readNumber 33 = .ok (.imul, 1) := by decide +kernel
theorem dX9_readNumber_34 : decode cX9_readNumber 34 = .ok (.aload_n 0, 1) := by decide +kernel
theorem dX9_readNumber_35 : decode cX9_readNumber 35 = .ok (.bipush 9, 2) := by decide +kernel
theorem dX9_readNumber_37 : decode cX9_readNumber 37 = .ok (.invokevirtual 68, 3) := by decide +kernel
theorem dX9_readNumber_40 : decode cX9_readNumber 40 = .ok (.iadd, 1) := by decide +kernel
theorem dX9_readNumber_41 : decode cX9_readNumber 41 = .ok (.istore_n 2, 1) := by decide +kernel
theorem dX9_readNumber_42 : decode cX9_readNumber 42 = .ok (.iinc 3 1, 3) := by decide +kernel
theorem dX9_readNumber_45 : decode cX9_readNumber 45 = .ok (.goto (-36), 3) := by decide +kernel
theorem dX9_readNumber_48 : decode cX9_readNumber 48 = .ok (.iload_n 2, 1) := by decide +kernel
theorem dX9_readNumber_49 : decode cX9_readNumber 49 = .ok (.ireturn, 1) := by decide +kernel
theorem dX9_readDigit_0 : decode cX9_readDigit 0 = .ok (.aload_n 0, 1) := by decide +kernel
theorem dX9_readDigit_1 : decode cX9_readDigit 1 = .ok (.invokevirtual 36, 3) := by decide +kernel
theorem dX9_readDigit_4 : decode cX9_readDigit 4 = .ok (.istore_n 2, 1) := by decide +kernel
theorem dX9_readDigit_5 : decode cX9_readDigit 5 = .ok (.iload_n 2, 1) := by decide +kernel
theorem dX9_readDigit_6 : decode cX9_readDigit 6 = .ok (.iload_n 1, 1) := by decide +kernel
theorem dX9_readDigit_7 : decode cX9_readDigit 7 = .ok (.invokestatic 74, 3) := by decide +kernel
theorem dX9_readDigit_10 : decode cX9_readDigit 10 = .ok (.ifCond .ne 10, 3) := by decide +kernel
theorem dX9_readDigit_13 : decode cX9_readDigit 13 = .ok (.aload_n 0, 1) := by decide +kernel
theorem dX9_readDigit_14 : decode cX9_readDigit 14 = .ok (.iconst 1, 1) := by decide +kernel
theorem dX9_readDigit_15 : decode cX9_readDigit 15 = .ok (.putfield 22, 3) := by decide +kernel
theorem dX9_readDigit_18 : decode cX9_readDigit 18 = .ok (.iconst 0, 1) := by decide +kernel
theorem dX9_readDigit_19 : decode cX9_readDigit 19 = .ok (.ireturn, 1) := by decide +kernel
theorem dX9_readDigit_20 : decode cX9_readDigit 20 = .ok (.aload_n 0, 1) := by decide +kernel
theorem dX9_readDigit_21 : decode cX9_readDigit 21 = .ok (.dup, 1) := by decide +kernel
theorem dX9_readDigit_22 : decode cX9_readDigit 22 = .ok (.getfield 19, 3) := by decide +kernel
theorem dX9_readDigit_25 : decode cX9_readDigit 25 = .ok (.iconst 1, 1) := by decide +kernel
theorem dX9_readDigit_26 : decode cX9_readDigit 26 = .ok (.iadd, 1) := by decide +kernel
theorem dX9_readDigit_27 : decode cX9_readDigit 27 = .ok (.putfield 19, 3) := by decide +kernel
theorem dX9_readDigit_30 : decode cX9_readDigit 30 = .ok (.iload_n 2, 1) := by decide +kernel
theorem dX9_readDigit_31 : decode cX9_readDigit 31 = .ok (.bipush 48, 2) := by decide +kernel
theorem dX9_readDigit_33 : decode cX9_readDigit 33 = .ok (.isub, 1) := by decide +kernel
theorem dX9_readDigit_34 : decode cX9_readDigit 34 = .ok (.ireturn, 1) := by decide +kernel
theorem dX9_isDigit_0 : decode cX9_isDigit 0 = .ok (.iload_n 0, 1) := by decide +kernel
theorem dX9_isDigit_1 : decode cX9_isDigit 1 = .ok (.bipush 48, 2) := by decide +kernel
theorem dX9_isDigit_3 : decode cX9_isDigit 3 = .ok (.if_icmp .lt 15, 3) := by decide +kernel
theorem dX9_isDigit_6 : decode cX9_isDigit 6 = .ok (.iload_n 0, 1) := by decide +kernel
theorem dX9_isDigit_7 : decode cX9_isDigit 7 = .ok (.bipush 48, 2) := by decide +kernel
theorem dX9_isDigit_9 : decode cX9_isDigit 9 = .ok (.iload_n 1, 1) := by decide +kernel
theorem dX9_isDigit_10 : decode cX9_isDigit 10 = .ok (.iadd, 1) := by decide +kernel
theorem dX9_isDigit_11 : decode cX9_isDigit 11 = .ok (.if_icmp .gt 7, 3) := by decide +kernel
theorem dX9_isDigit_14 : decode cX9_isDigit 14 = .ok (.iconst 1, 1) := by decide +kernel
theorem dX9_isDigit_15 : decode cX9_isDigit 15 = .ok (.goto 4, 3) := by decide +kernel
theorem dX9_isDigit_18 : decode cX9_isDigit 18 = .ok (.iconst 0, 1) := by decide +kernel
theorem dX9_isDigit_19 : decode cX9_isDigit 19 = .ok (.ireturn, 1) := by decide +kernel
theorem dX9_pass_0 : decode cX9_pass 0 = .ok (.aload_n 0, 1) := by decide +kernel
theorem dX9_pass_1 : decode cX9_pass 1 = .ok (.invokevirtual 36, 3) := by decide +kernel
theorem dX9_pass_4 : decode cX9_pass 4 = .ok (.iload_n 1, 1) := by decide +kernel
theorem dX9_pass_5 : decode cX9_pass 5 = .ok (.if_icmp .ne 16, 3) := by decide +kernel
theorem dX9_pass_8 : decode cX9_pass 8 = .ok (.aload_n 0, 1) := by decide +kernel
theorem dX9_pass_9 : decode cX9_pass 9 = .ok (.dup, 1) := by decide +kernel
theorem dX9_pass_10 : decode cX9_pass 10 = .ok (.getfield 19, 3) := by decide +kernel
theorem dX9_pass_13 : decode cX9_pass 13 = .ok (.iconst 1, 1) := by decide +kernel
theorem dX9_pass_14 : decode cX9_pass 14 = .ok (.iadd, 1) := by decide +kernel
theorem dX9_pass_15 : decode cX9_pass 15 = .ok (.putfield 19, 3) := by decide +kernel
theorem dX9_pass_18 : decode cX9_pass 18 = .ok (.goto 8, 3) := by decide +kernel
theorem dX9_pass_21 : decode cX9_pass 21 = .ok (.aload_n 0, 1) := by decide +kernel
theorem dX9_pass_22 : decode cX9_pass 22 = .ok (.iconst 1, 1) := by decide +kernel
theorem dX9_pass_23 : decode cX9_pass 23 = .ok (.putfield 22, 3) := by decide +kernel
theorem dX9_pass_26 : decode cX9_pass 26 = .ok (.return_, 1) := by decide +kernel
theorem dX9_here_0 : decode cX9_here 0 = .ok (.aload_n 0, 1) := by decide +kernel
theorem dX9_here_1 : decode cX9_here 1 = .ok (.getfield 22, 3) := by decide +kernel
theorem dX9_here_4 : decode cX9_here 4 = .ok (.ifCond .ne 33, 3) := by decide +kernel
theorem dX9_here_7 : decode cX9_here 7 = .ok (.aload_n 0, 1) := by decide +kernel
theorem dX9_here_8 : decode cX9_here 8 = .ok (.getfield 19, 3) := by decide +kernel
theorem dX9_here_11 : decode cX9_here 11 = .ok (.ifCond .lt 26, 3) := by decide +kernel
theorem dX9_here_14 : decode cX9_here 14 = .ok (.aload_n 0, 1) := by decide +kernel
theorem dX9_here_15 : decode cX9_here 15 = .ok (.getfield 19, 3) := by decide +kernel
theorem dX9_here_18 : decode cX9_here 18 = .ok (.aload_n 0, 1) := by decide +kernel
theorem dX9_here_19 : decode cX9_here 19 = .ok (.getfield 15, 3) := by decide +kernel
theorem dX9_here_22 : decode cX9_here 22 = .ok (.if_icmp .ge 15, 3) := by decide +kernel
theorem dX9_here_25 : decode cX9_here 25 = .ok (.aload_n 0, 1) := by decide +kernel
theorem dX9_here_26 : decode cX9_here 26 = .ok (.getfield 19, 3) := by decide +kernel
theorem dX9_here_29 : decode cX9_here 29 = .ok (.aload_n 0, 1) := by decide +kernel
theorem dX9_here_30 : decode cX9_here 30 = .ok (.getfield 9, 3) := by decide +kernel
theorem dX9_here_33 : decode cX9_here 33 = .ok (.arraylength, 1) := by decide +kernel
theorem dX9_here_34 : decode cX9_here 34 = .ok (.if_icmp .lt 5, 3) := by decide +kernel
theorem dX9_here_37 : decode cX9_here 37 = .ok (.iconst (-1), 1) := by decide +kernel
theorem dX9_here_38 : decode cX9_here 38 = .ok (.ireturn, 1) := by decide +kernel
theorem dX9_here_39 : decode cX9_here 39 = .ok (.aload_n 0, 1) := by decide +kernel
theorem dX9_here_40 : decode cX9_here 40 = .ok (.getfield 9, 3) := by decide +kernel
theorem dX9_here_43 : decode cX9_here 43 = .ok (.aload_n 0, 1) := by decide +kernel
theorem dX9_here_44 : decode cX9_here 44 = .ok (.getfield 19, 3) := by decide +kernel
theorem dX9_here_47 : decode cX9_here 47 = .ok (.caload, 1) := by decide +kernel
theorem dX9_here_48 : decode cX9_here 48 = .ok (.ireturn, 1) := by decide +kernel
theorem dX10_init_0 : decode cX10_init 0 = .ok (.aload_n 0, 1) := by decide +kernel
theorem dX10_init_1 : decode cX10_init 1 = .ok (.invokespecial 1, 3) := by decide +kernel
theorem dX10_init_4 : decode cX10_init 4 = .ok (.aload_n 0, 1) := by decide +kernel
theorem dX10_init_5 : decode cX10_init 5 = .ok (.new 7, 3) := by decide +kernel
theorem dX10_init_8 : decode cX10_init 8 = .ok (.dup, 1) := by decide +kernel
theorem dX10_init_9 : decode cX10_init 9 = .ok (.invokespecial 9, 3) := by decide +kernel
theorem dX10_init_12 : decode cX10_init 12 = .ok (.putfield 10, 3) := by decide +kernel
theorem dX10_init_15 : decode cX10_init 15 = .ok (.aload_n 0, 1) := by decide +kernel
theorem dX10_init_16 : decode cX10_init 16 = .ok (.new 16, 3) := by decide +kernel
theorem dX10_init_19 : decode cX10_init 19 = .ok (.dup, 1) := by decide +kernel
theorem dX10_init_20 : decode cX10_init 20 = .ok (.invokespecial 18, 3) := by decide +kernel
theorem dX10_init_23 : decode cX10_init 23 = .ok (.putfield 19, 3) := by decide +kernel
theorem dX10_init_26 : decode cX10_init 26 = .ok (.aload_n 0, 1) := by decide +kernel
theorem dX10_init_27 : decode cX10_init 27 = .ok (.new 16, 3) := by decide +kernel
theorem dX10_init_30 : decode cX10_init 30 = .ok (.dup, 1) := by decide +kernel
theorem dX10_init_31 : decode cX10_init 31 = .ok (.invokespecial 18, 3) := by decide +kernel
theorem dX10_init_34 : decode cX10_init 34 = .ok (.putfield 23, 3) := by decide +kernel
theorem dX10_init_37 : decode cX10_init 37 = .ok (.aload_n 0, 1) := by decide +kernel
theorem dX10_init_38 : decode cX10_init 38 = .ok (.new 26, 3) := by decide +kernel
theorem dX10_init_41 : decode cX10_init 41 = .ok (.dup, 1) := by decide +kernel
theorem dX10_init_42 : decode cX10_init 42 = .ok (.invokespecial 28, 3) := by decide +kernel
theorem dX10_init_45 : decode cX10_init 45 = .ok (.putfield 29, 3) := by decide +kernel
theorem dX10_init_48 : decode cX10_init 48 = .ok (.aload_n 0, 1) := by decide +kernel
theorem dX10_init_49 : decode cX10_init 49 = .ok (.new 33, 3) := by decide +kernel
theorem dX10_init_52 : decode cX10_init 52 = .ok (.dup, 1) := by decide +kernel
theorem dX10_init_53 : decode cX10_init 53 = .ok (.invokespecial 35, 3) := by decide +kernel
theorem dX10_init_56 : decode cX10_init 56 = .ok (.putfield 36, 3) := by decide +kernel
theorem dX10_init_59 : decode cX10_init 59 = .ok (.return_, 1) := by decide +kernel
theorem dX10_addRule_0 : decode cX10_addRule 0 = .ok (.iload_n 1, 1) := by decide +kernel
theorem dX10_addRule_1 : decode cX10_addRule 1 = .ok (.invokestatic 40, 3) := by decide +kernel
theorem dX10_addRule_4 : decode cX10_addRule 4 = .ok (.ifCond .eq 57, 3) := by decide +kernel
theorem dX10_addRule_7 : decode cX10_addRule 7 = .ok (.iload_n 2, 1) := by decide +kernel
theorem dX10_addRule_8 : decode cX10_addRule 8 = .ok (.invokestatic 44, 3) := by decide +kernel
theorem dX10_addRule_11 : decode cX10_addRule 11 = .ok (.ifCond .eq 50, 3) := by decide +kernel
theorem dX10_addRule_14 : decode cX10_addRule 14 = .ok (.iload_n 3, 1) := by decide +kernel
theorem dX10_addRule_15 : decode cX10_addRule 15 = .ok (.iconst 0, 1) := by decide +kernel
theorem dX10_addRule_16 : decode cX10_addRule 16 = .ok (.bipush 99, 2) := by decide +kernel
theorem dX10_addRule_18 : decode cX10_addRule 18 = .ok (.invokestatic 47, 3) := by decide +kernel
theorem dX10_addRule_21 : decode cX10_addRule 21 = .ok (.ifCond .eq 40, 3) := by decide +kernel
theorem dX10_addRule_24 : decode cX10_addRule 24 = .ok (.iload_n 2, 1) := by decide +kernel
theorem dX10_addRule_25 : decode cX10_addRule 25 = .ok (.iload 4, 2) := by decide +kernel
theorem dX10_addRule_27 : decode cX10_addRule 27 = .ok (.invokestatic 51, 3) := by decide +kernel
theorem dX10_addRule_30 : decode cX10_addRule 30 = .ok (.ifCond .eq 31, 3) := by decide +kernel
theorem dX10_addRule_33 : decode cX10_addRule 33 = .ok (.iload 5, 2) := by decide +kernel
theorem dX10_addRule_35 : decode cX10_addRule 35 = .ok (.iconst 0, 1) := by decide +kernel
theorem dX10_addRule_36 : decode cX10_addRule 36 = .ok (.iconst 2, 1) := by decide +kernel
theorem dX10_addRule_37 : decode cX10_addRule 37 = .ok (.invokestatic 47, 3) := by decide +kernel
theorem dX10_addRule_40 : decode cX10_addRule 40 = .ok (.ifCond .eq 21, 3) := by decide +kernel
theorem dX10_addRule_43 : decode cX10_addRule 43 = .ok (.iload 6, 2) := by decide +kernel
theorem dX10_addRule_45 : decode cX10_addRule 45 = .ok (.iconst 0, 1) := by decide +kernel
theorem dX10_addRule_46 : decode cX10_addRule 46 = .ok (.iconst 3, 1) := by decide +kernel
theorem dX10_addRule_47 : decode cX10_addRule 47 = .ok (.invokestatic 47, 3) := by decide +kernel
theorem dX10_addRule_50 : decode cX10_addRule 50 = .ok (.ifCond .eq 11, 3) := by decide +kernel
theorem dX10_addRule_53 : decode cX10_addRule 53 = .ok (.iload 7, 2) := by decide +kernel
theorem dX10_addRule_55 : decode cX10_addRule 55 = .ok (.invokestatic 55, 3) := by decide +kernel
theorem dX10_addRule_58 : decode cX10_addRule 58 = .ok (.ifCond .ne 7, 3) := by decide +kernel
theorem dX10_addRule_61 : decode cX10_addRule 61 = .ok (.sipush (-1002), 3) := by decide +kernel
theorem dX10_addRule_64 : decode cX10_addRule 64 = .ok (.ireturn, 1) := by decide +kernel
theorem dX10_addRule_65 : decode cX10_addRule 65 = .ok (.aload_n 0, 1) := by decide +kernel
theorem dX10_addRule_66 : decode cX10_addRule 66 = .ok (.getfield 10, 3) := by decide +kernel
theorem dX10_addRule_69 : decode cX10_addRule 69 = .ok (.getfield 58, 3) := by decide +kernel
theorem dX10_addRule_72 : decode cX10_addRule 72 = .ok (.getfield 61, 3) := by decide +kernel
theorem dX10_addRule_75 : decode cX10_addRule 75 = .ok (.astore 8, 2) := by decide +kernel
theorem dX10_addRule_77 : decode cX10_addRule 77 = .ok (.aload 8, 2) := by decide +kernel
theorem dX10_addRule_79 : decode cX10_addRule 79 = .ok (.invokevirtual 65, 3) := by decide +kernel
theorem dX10_addRule_82 : decode cX10_addRule 82 = .ok (.astore 9, 2) := by decide +kernel
theorem dX10_addRule_84 : decode cX10_addRule 84 = .ok (.aload 9, 2) := by decide +kernel
theorem dX10_addRule_86 : decode cX10_addRule 86 = .ok (.ifnonnull 7, 3) := by decide +kernel
theorem dX10_addRule_89 : decode cX10_addRule 89 = .ok (.sipush (-1003), 3) := by decide +kernel
theorem dX10_addRule_92 : decode cX10_addRule 92 = .ok (.ireturn, 1) := by decide +kernel
theorem dX10_addRule_93 : decode cX10_addRule 93 = .ok (.aload_n 0, 1) := by decide +kernel
theorem dX10_addRule_94 : decode cX10_addRule 94 = .ok (.getfield 29, 3) := by decide +kernel
theorem dX10_addRule_97 : decode cX10_addRule 97 = .ok (.aload_n 0, 1) := by decide +kernel
theorem dX10_addRule_98 : decode cX10_addRule 98 = .ok (.getfield 10, 3) := by decide +kernel
theorem dX10_addRule_101 : decode cX10_addRule 101 = .ok (.getfield 58, 3) := by decide +kernel
theorem dX10_addRule_104 : decode cX10_addRule 104 = .ok (.invokevirtual 71, 3) := by decide +kernel
theorem dX10_addRule_107 : decode cX10_addRule 107 = .ok (.aload 9, 2) := by decide +kernel
theorem dX10_addRule_109 : decode cX10_addRule 109 = .ok (.iload_n 1, 1) := by decide +kernel
theorem dX10_addRule_110 : decode cX10_addRule 110 = .ok (.iload_n 2, 1) := by decide +kernel
theorem dX10_addRule_111 : decode cX10_addRule 111 = .ok (.iload_n 3, 1) := by decide +kernel
theorem dX10_addRule_112 : decode cX10_addRule 112 = .ok (.iload 4, 2) := by decide +kernel
theorem dX10_addRule_114 : decode cX10_addRule 114 = .ok (.iload 5, 2) := by decide +kernel
theorem dX10_addRule_116 : decode cX10_addRule 116 = .ok (.iload 6, 2) := by decide +kernel
theorem dX10_addRule_118 : decode cX10_addRule 118 = .ok (.iload 7, 2) := by decide +kernel
theorem dX10_addRule_120 : decode cX10_addRule 120 = .ok (.invokevirtual 75, 3) := by decide +kernel
theorem dX10_addRule_123 : decode cX10_addRule 123 = .ok (.aload 8, 2) := by decide +kernel
theorem dX10_addRule_125 : decode cX10_addRule 125 = .ok (.invokevirtual 81, 3) := by decide +kernel
theorem dX10_addRule_128 : decode cX10_addRule 128 = .ok (.ireturn, 1) := by decide +kernel
theorem dX10_setCondition_0 : decode cX10_setCondition 0 = .ok (.aload_n 0, 1) := by decide +kernel
theorem dX10_setCondition_1 : decode cX10_setCondition 1 = .ok (.getfield 10, 3) := by decide +kernel
theorem dX10_setCondition_4 : decode cX10_setCondition 4 = .ok (.getfield 58, 3) := by decide +kernel
theorem dX10_setCondition_7 : decode cX10_setCondition 7 = .ok (.getfield 61, 3) := by decide +kernel
theorem dX10_setCondition_10 : decode cX10_setCondition 10 = .ok (.iload_n 1, 1) := by decide +kernel
theorem dX10_setCondition_11 : decode cX10_setCondition 11 = .ok (.invokevirtual 85, 3) := by decide +kernel
theorem dX10_setCondition_14 : decode cX10_setCondition 14 = .ok (.astore 5, 2) := by decide +kernel
theorem dX10_setCondition_16 : decode cX10_setCondition 16 = .ok (.aload 5, 2) := by decide +kernel
theorem dX10_setCondition_18 : decode cX10_setCondition 18 = .ok (.ifnonnull 7, 3) := by decide +kernel
theorem dX10_setCondition_21 : decode cX10_setCondition 21 = .ok (.sipush (-1001), 3) := by decide +kernel
theorem dX10_setCondition_24 : decode cX10_setCondition 24 = .ok (.ireturn, 1) := by decide +kernel
theorem dX10_setCondition_25 : decode cX10_setCondition 25 = .ok (.iload_n 2, 1) := by decide +kernel
theorem dX10_setCondition_26 : decode cX10_setCondition 26 = .ok (.iconst 0, 1) := by decide +kernel
theorem dX10_setCondition_27 : decode cX10_setCondition 27 = .ok (.iconst 3, 1) := by decide +kernel
theorem dX10_setCondition_28 : decode cX10_setCondition 28 = .ok (.invokestatic 47, 3) := by decide +kernel
theorem dX10_setCondition_31 : decode cX10_setCondition 31 = .ok (.ifCond .eq 20, 3) := by decide +kernel
theorem dX10_setCondition_34 : decode cX10_setCondition 34 = .ok (.iload_n 3, 1) := by decide +kernel
theorem dX10_setCondition_35 : decode cX10_setCondition 35 = .ok (.iconst 0, 1) := by decide +kernel
theorem dX10_setCondition_36 : decode cX10_setCondition 36 = .ok (.iconst 5, 1) := by decide +kernel
theorem dX10_setCondition_37 : decode cX10_setCondition 37 = .ok (.invokestatic 47, 3) := by decide +kernel
theorem dX10_setCondition_40 : decode cX10_setCondition 40 = .ok (.ifCond .eq 11, 3) := by decide +kernel
theorem dX10_setCondition_43 : decode cX10_setCondition 43 = .ok (.iload 4, 2) := by decide +kernel
theorem dX10_setCondition_45 : decode cX10_setCondition 45 = .ok (.invokestatic 55, 3) := by decide +kernel
theorem dX10_setCondition_48 : decode cX10_setCondition 48 = .ok (.ifCond .ne 7, 3) := by decide +kernel
theorem dX10_setCondition_51 : decode cX10_setCondition 51 = .ok (.sipush (-1002), 3) := by decide +kernel
theorem dX10_setCondition_54 : decode cX10_setCondition 54 = .ok (.ireturn, 1) := by decide +kernel
theorem dX10_setCondition_55 : decode cX10_setCondition 55 = .ok (.aload_n 0, 1) := by decide +kernel
theorem dX10_setCondition_56 : decode cX10_setCondition 56 = .ok (.getfield 29, 3) := by decide +kernel
theorem dX10_setCondition_59 : decode cX10_setCondition 59 = .ok (.aload_n 0, 1) := by decide +kernel
theorem dX10_setCondition_60 : decode cX10_setCondition 60 = .ok (.getfield 10, 3) := by decide +kernel
theorem dX10_setCondition_63 : decode cX10_setCondition 63 = .ok (.getfield 58, 3) := by decide +kernel
theorem dX10_setCondition_66 : decode cX10_setCondition 66 = .ok (.invokevirtual 71, 3) := by decide +kernel
theorem dX10_setCondition_69 : decode cX10_setCondition 69 = .ok (.aload 5, 2) := by decide +kernel
theorem dX10_setCondition_71 : decode cX10_setCondition 71 = .ok (.iload_n 2, 1) := by decide +kernel
theorem dX10_setCondition_72 : decode cX10_setCondition 72 = .ok (.iload_n 3, 1) := by decide +kernel
theorem dX10_setCondition_73 : decode cX10_setCondition 73 = .ok (.iload 4, 2) := by decide +kernel
theorem dX10_setCondition_75 : decode cX10_setCondition 75 = .ok (.invokevirtual 89, 3) := by decide +kernel
theorem dX10_setCondition_78 : decode cX10_setCondition 78 = .ok (.iload_n 1, 1) := by decide +kernel
theorem dX10_setCondition_79 : decode cX10_setCondition 79 = .ok (.ireturn, 1) := by decide +kernel
theorem dX10_put_0 : decode cX10_put 0 = .ok (.aload_n 0, 1) := by decide +kernel
theorem dX10_put_1 : decode cX10_put 1 = .ok (.getfield 10, 3) := by decide +kernel
theorem dX10_put_4 : decode cX10_put 4 = .ok (.getfield 58, 3) := by decide +kernel
theorem dX10_put_7 : decode cX10_put 7 = .ok (.getfield 61, 3) := by decide +kernel
theorem dX10_put_10 : decode cX10_put 10 = .ok (.iload_n 1, 1) := by decide +kernel
theorem dX10_put_11 : decode cX10_put 11 = .ok (.invokevirtual 85, 3) := by decide +kernel
theorem dX10_put_14 : decode cX10_put 14 = .ok (.astore_n 3, 1) := by decide +kernel
theorem dX10_put_15 : decode cX10_put 15 = .ok (.aload_n 3, 1) := by decide +kernel
theorem dX10_put_16 : decode cX10_put 16 = .ok (.ifnonnull 7, 3) := by decide +kernel
theorem dX10_put_19 : decode cX10_put 19 = .ok (.sipush (-1001), 3) := by decide +kernel
theorem dX10_put_22 : decode cX10_put 22 = .ok (.ireturn, 1) := by decide +kernel
theorem dX10_put_23 : decode cX10_put 23 = .ok (.aload_n 3, 1) := by decide +kernel
theorem dX10_put_24 : decode cX10_put 24 = .ok (.getfield 93, 3) := by decide +kernel
theorem dX10_put_27 : decode cX10_put 27 = .ok (.iload_n 2, 1) := by decide +kernel
theorem dX10_put_28 : decode cX10_put 28 = .ok (.if_icmp .ne 7, 3) := by decide +kernel
theorem dX10_put_31 : decode cX10_put 31 = .ok (.sipush (-1006), 3) := by decide +kernel
theorem dX10_put_34 : decode cX10_put 34 = .ok (.ireturn, 1) := by decide +kernel
theorem dX10_put_35 : decode cX10_put 35 = .ok (.aload_n 0, 1) := by decide +kernel
theorem dX10_put_36 : decode cX10_put 36 = .ok (.getfield 29, 3) := by decide +kernel
theorem dX10_put_39 : decode cX10_put 39 = .ok (.aload_n 0, 1) := by decide +kernel
theorem dX10_put_40 : decode cX10_put 40 = .ok (.getfield 10, 3) := by decide +kernel
theorem dX10_put_43 : decode cX10_put 43 = .ok (.getfield 58, 3) := by decide +kernel
theorem dX10_put_46 : decode cX10_put 46 = .ok (.invokevirtual 71, 3) := by decide +kernel
theorem dX10_put_49 : decode cX10_put 49 = .ok (.aload_n 3, 1) := by decide +kernel
theorem dX10_put_50 : decode cX10_put 50 = .ok (.iload_n 2, 1) := by decide +kernel
theorem dX10_put_51 : decode cX10_put 51 = .ok (.putfield 93, 3) := by decide +kernel
theorem dX10_put_54 : decode cX10_put 54 = .ok (.aload_n 0, 1) := by decide +kernel
theorem dX10_put_55 : decode cX10_put 55 = .ok (.getfield 10, 3) := by decide +kernel
theorem dX10_put_58 : decode cX10_put 58 = .ok (.getfield 58, 3) := by decide +kernel
theorem dX10_put_61 : decode cX10_put 61 = .ok (.getfield 61, 3) := by decide +kernel
theorem dX10_put_64 : decode cX10_put 64 = .ok (.invokevirtual 97, 3) := by decide +kernel
theorem dX10_put_67 : decode cX10_put 67 = .ok (.ireturn, 1) := by decide +kernel
theorem dX10_removeRule_0 : decode cX10_removeRule 0 = .ok (.aload_n 0, 1) := by decide +kernel
theorem dX10_removeRule_1 : decode cX10_removeRule 1 = .ok (.getfield 10, 3) := by decide +kernel
theorem dX10_removeRule_4 : decode cX10_removeRule 4 = .ok (.getfield 58, 3) := by decide +kernel
theorem dX10_removeRule_7 : decode cX10_removeRule 7 = .ok (.getfield 61, 3) := by decide +kernel
theorem dX10_removeRule_10 : decode cX10_removeRule 10 = .ok (.astore_n 2, 1) := by decide +kernel
theorem dX10_removeRule_11 : decode cX10_removeRule 11 = .ok (.aload_n 2, 1) := by decide +kernel
theorem dX10_removeRule_12 : decode cX10_removeRule 12 = .ok (.iload_n 1, 1) := by decide +kernel
theorem dX10_removeRule_13 : decode cX10_removeRule 13 = .ok (.invokevirtual 85, 3) := by decide +kernel
theorem dX10_removeRule_16 : decode cX10_removeRule 16 = .ok (.ifnonnull 7, 3) := by decide +kernel
theorem dX10_removeRule_19 : decode cX10_removeRule 19 = .ok (.sipush (-1001), 3) := by decide +kernel
theorem dX10_removeRule_22 : decode cX10_removeRule 22 = .ok (.ireturn, 1) := by decide +kernel
theorem dX10_removeRule_23 : decode cX10_removeRule 23 = .ok (.aload_n 0, 1) := by decide +kernel
theorem dX10_removeRule_24 : decode cX10_removeRule 24 = .ok (.getfield 29, 3) := by decide +kernel
theorem dX10_removeRule_27 : decode cX10_removeRule 27 = .ok (.aload_n 0, 1) := by decide +kernel
theorem dX10_removeRule_28 : decode cX10_removeRule 28 = .ok (.getfield 10, 3) := by decide +kernel
theorem dX10_removeRule_31 : decode cX10_removeRule 31 = .ok (.getfield 58, 3) := by decide +kernel
theorem dX10_removeRule_34 : decode cX10_removeRule 34 = .ok (.invokevirtual 71, 3) := by decide +kernel
theorem dX10_removeRule_37 : decode cX10_removeRule 37 = .ok (.aload_n 2, 1) := by decide +kernel
theorem dX10_removeRule_38 : decode cX10_removeRule 38 = .ok (.iload_n 1, 1) := by decide +kernel
theorem dX10_removeRule_39 : decode cX10_removeRule 39 = .ok (.invokevirtual 100, 3) := by decide +kernel
theorem dX10_removeRule_42 : decode cX10_removeRule 42 = .ok (.aload_n 2, 1) := by decide +kernel
theorem dX10_removeRule_43 : decode cX10_removeRule 43 = .ok (.getfield 104, 3) := by decide +kernel
theorem dX10_removeRule_46 : decode cX10_removeRule 46 = .ok (.ireturn, 1) := by decide +kernel
theorem dX10_set_0 : decode cX10_set 0 = .ok (.iload_n 1, 1) := by decide +kernel
theorem dX10_set_1 : decode cX10_set 1 = .ok (.iconst 0, 1) := by decide +kernel
theorem dX10_set_2 : decode cX10_set 2 = .ok (.iconst 1, 1) := by decide +kernel
theorem dX10_set_3 : decode cX10_set 3 = .ok (.invokestatic 47, 3) := by decide +kernel
theorem dX10_set_6 : decode cX10_set 6 = .ok (.ifCond .ne 7, 3) := by decide +kernel
theorem dX10_set_9 : decode cX10_set 9 = .ok (.sipush (-1001), 3) := by decide +kernel
theorem dX10_set_12 : decode cX10_set 12 = .ok (.ireturn, 1) := by decide +kernel
theorem dX10_set_13 : decode cX10_set 13 = .ok (.iload_n 1, 1) := by decide +kernel
theorem dX10_set_14 : decode cX10_set 14 = .ok (.ifCond .ne 13, 3) := by decide +kernel
theorem dX10_set_17 : decode cX10_set 17 = .ok (.iload_n 2, 1) := by decide +kernel
theorem dX10_set_18 : decode cX10_set 18 = .ok (.iconst 1, 1) := by decide +kernel
theorem dX10_set_19 : decode cX10_set 19 = .ok (.bipush 8, 2) := by decide +kernel
theorem dX10_set_21 : decode cX10_set 21 = .ok (.invokestatic 47, 3) := by decide +kernel
theorem dX10_set_24 : decode cX10_set 24 = .ok (.goto 9, 3) := by decide +kernel
theorem dX10_set_27 : decode cX10_set 27 = .ok (.iload_n 2, 1) := by decide +kernel
theorem dX10_set_28 : decode cX10_set 28 = .ok (.iconst 0, 1) := by decide +kernel
theorem dX10_set_29 : decode cX10_set 29 = .ok (.iconst 1, 1) := by decide +kernel
theorem dX10_set_30 : decode cX10_set 30 = .ok (.invokestatic 47, 3) := by decide +kernel
theorem dX10_set_33 : decode cX10_set 33 = .ok (.istore_n 3, 1) := by decide +kernel
theorem dX10_set_34 : decode cX10_set 34 = .ok (.iload_n 3, 1) := by decide +kernel
theorem dX10_set_35 : decode cX10_set 35 = .ok (.ifCond .ne 7, 3) := by decide +kernel
theorem dX10_set_38 : decode cX10_set 38 = .ok (.sipush (-1002), 3) := by decide +kernel
theorem dX10_set_41 : decode cX10_set 41 = .ok (.ireturn, 1) := by decide +kernel
theorem dX10_set_42 : decode cX10_set 42 = .ok (.aload_n 0, 1) := by decide +kernel
theorem dX10_set_43 : decode cX10_set 43 = .ok (.getfield 10, 3) := by decide +kernel
theorem dX10_set_46 : decode cX10_set 46 = .ok (.getfield 58, 3) := by decide +kernel
theorem dX10_set_49 : decode cX10_set 49 = .ok (.astore 4, 2) := by decide +kernel
theorem dX10_set_51 : decode cX10_set 51 = .ok (.iload_n 1, 1) := by decide +kernel
theorem dX10_set_52 : decode cX10_set 52 = .ok (.ifCond .ne 11, 3) := by decide +kernel
theorem dX10_set_55 : decode cX10_set 55 = .ok (.aload 4, 2) := by decide +kernel
theorem dX10_set_57 : decode cX10_set 57 = .ok (.getfield 108, 3) := by decide +kernel
theorem dX10_set_60 : decode cX10_set 60 = .ok (.goto 8, 3) := by decide +kernel
theorem dX10_set_63 : decode cX10_set 63 = .ok (.aload 4, 2) := by decide +kernel
theorem dX10_set_65 : decode cX10_set 65 = .ok (.getfield 111, 3) := by decide +kernel
theorem dX10_set_68 : decode cX10_set 68 = .ok (.istore 5, 2) := by decide +kernel
theorem dX10_set_70 : decode cX10_set 70 = .ok (.iload 5, 2) := by decide +kernel
theorem dX10_set_72 : decode cX10_set 72 = .ok (.iload_n 2, 1) := by decide +kernel
theorem dX10_set_73 : decode cX10_set 73 = .ok (.if_icmp .ne 7, 3) := by decide +kernel
theorem dX10_set_76 : decode cX10_set 76 = .ok (.sipush (-1006), 3) := by decide +kernel
theorem dX10_set_79 : decode cX10_set 79 = .ok (.ireturn, 1) := by decide +kernel
theorem dX10_set_80 : decode cX10_set 80 = .ok (.aload_n 0, 1) := by decide +kernel
theorem dX10_set_81 : decode cX10_set 81 = .ok (.getfield 29, 3) := by decide +kernel
theorem dX10_set_84 : decode cX10_set 84 = .ok (.aload 4, 2) := by decide +kernel
theorem dX10_set_86 : decode cX10_set 86 = .ok (.invokevirtual 71, 3) := by decide +kernel
theorem dX10_set_89 : decode cX10_set 89 = .ok (.iload_n 1, 1) := by decide +kernel
theorem dX10_set_90 : decode cX10_set 90 = .ok (.ifCond .ne 12, 3) := by decide +kernel
theorem dX10_set_93 : decode cX10_set 93 = .ok (.aload 4, 2) := by decide +kernel
theorem dX10_set_95 : decode cX10_set 95 = .ok (.iload_n 2, 1) := by decide +kernel
theorem dX10_set_96 : decode cX10_set 96 = .ok (.putfield 108, 3) := by decide +kernel
theorem dX10_set_99 : decode cX10_set 99 = .ok (.goto 9, 3) := by decide +kernel
theorem dX10_set_102 : decode cX10_set 102 = .ok (.aload 4, 2) := by decide +kernel
theorem dX10_set_104 : decode cX10_set 104 = .ok (.iload_n 2, 1) := by decide +kernel
theorem dX10_set_105 : decode cX10_set 105 = .ok (.putfield 111, 3) := by decide +kernel
theorem dX10_set_108 : decode cX10_set 108 = .ok (.iload 5, 2) := by decide +kernel
theorem dX10_set_110 : decode cX10_set 110 = .ok (.ireturn, 1) := by decide +kernel
theorem dX10_insert_0 : decode cX10_insert 0 = .ok (.aload_n 0, 1) := by decide +kernel
theorem dX10_insert_1 : decode cX10_insert 1 = .ok (.getfield 19, 3) := by decide +kernel
theorem dX10_insert_4 : decode cX10_insert 4 = .ok (.aload_n 0, 1) := by decide +kernel
theorem dX10_insert_5 : decode cX10_insert 5 = .ok (.getfield 10, 3) := by decide +kernel
theorem dX10_insert_8 : decode cX10_insert 8 = .ok (.getfield 58, 3) := by decide +kernel
theorem dX10_insert_11 : decode cX10_insert 11 = .ok (.invokevirtual 114, 3) := by decide +kernel
theorem dX10_insert_14 : decode cX10_insert 14 = .ok (.aload_n 0, 1) := by decide +kernel
theorem dX10_insert_15 : decode cX10_insert 15 = .ok (.aload_n 0, 1) := by decide +kernel
theorem dX10_insert_16 : decode cX10_insert 16 = .ok (.getfield 10, 3) := by decide +kernel
theorem dX10_insert_19 : decode cX10_insert 19 = .ok (.iload_n 1, 1) := by decide +kernel
theorem dX10_insert_20 : decode cX10_insert 20 = .ok (.iload_n 2, 1) := by decide +kernel
theorem dX10_insert_21 : decode cX10_insert 21 = .ok (.iload_n 3, 1) := by decide +kernel
theorem dX10_insert_22 : decode cX10_insert 22 = .ok (.iload 4, 2) := by decide +kernel
theorem dX10_insert_24 : decode cX10_insert 24 = .ok (.invokevirtual 117, 3) := by decide +kernel
theorem dX10_insert_27 : decode cX10_insert 27 = .ok (.invokevirtual 121, 3) := by decide +kernel
theorem dX10_insert_30 : decode cX10_insert 30 = .ok (.ireturn, 1) := by decide +kernel
theorem dX10_update_0 : decode cX10_update 0 = .ok (.aload_n 0, 1) := by decide +kernel
theorem dX10_update_1 : decode cX10_update 1 = .ok (.getfield 19, 3) := by decide +kernel
theorem dX10_update_4 : decode cX10_update 4 = .ok (.aload_n 0, 1) := by decide +kernel
theorem dX10_update_5 : decode cX10_update 5 = .ok (.getfield 10, 3) := by decide +kernel
theorem dX10_update_8 : decode cX10_update 8 = .ok (.getfield 58, 3) := by decide +kernel
theorem dX10_update_11 : decode cX10_update 11 = .ok (.invokevirtual 114, 3) := by decide +kernel
theorem dX10_update_14 : decode cX10_update 14 = .ok (.aload_n 0, 1) := by decide +kernel
theorem dX10_update_15 : decode cX10_update 15 = .ok (.aload_n 0, 1) := by decide +kernel
theorem dX10_update_16 : decode cX10_update 16 = .ok (.getfield 10, 3) := by decide +kernel
theorem dX10_update_19 : decode cX10_update 19 = .ok (.iload_n 1, 1) := by decide +kernel
theorem dX10_update_20 : decode cX10_update 20 = .ok (.iload_n 2, 1) := by decide +kernel
theorem dX10_update_21 : decode cX10_update 21 = .ok (.iload_n 3, 1) := by decide +kernel
theorem dX10_update_22 : decode cX10_update 22 = .ok (.invokevirtual 125, 3) := by decide +kernel
theorem dX10_update_25 : decode cX10_update 25 = .ok (.invokevirtual 121, 3) := by decide +kernel
theorem dX10_update_28 : decode cX10_update 28 = .ok (.ireturn, 1) := by decide +kernel
theorem dX10_delete_0 : decode cX10_delete 0 = .ok (.aload_n 0, 1) := by decide +kernel
theorem dX10_delete_1 : decode cX10_delete 1 = .ok (.getfield 19, 3) := by decide +kernel
theorem dX10_delete_4 : decode cX10_delete 4 = .ok (.aload_n 0, 1) := by decide +kernel
theorem dX10_delete_5 : decode cX10_delete 5 = .ok (.getfield 10, 3) := by decide +kernel
theorem dX10_delete_8 : decode cX10_delete 8 = .ok (.getfield 58, 3) := by decide +kernel
theorem dX10_delete_11 : decode cX10_delete 11 = .ok (.invokevirtual 114, 3) := by decide +kernel
theorem dX10_delete_14 : decode cX10_delete 14 = .ok (.aload_n 0, 1) := by decide +kernel
theorem dX10_delete_15 : decode cX10_delete 15 = .ok (.aload_n 0, 1) := by decide +kernel
theorem dX10_delete_16 : decode cX10_delete 16 = .ok (.getfield 10, 3) := by decide +kernel
theorem dX10_delete_19 : decode cX10_delete 19 = .ok (.iload_n 1, 1) := by decide +kernel
theorem dX10_delete_20 : decode cX10_delete 20 = .ok (.invokevirtual 129, 3) := by decide +kernel
theorem dX10_delete_23 : decode cX10_delete 23 = .ok (.invokevirtual 121, 3) := by decide +kernel
theorem dX10_delete_26 : decode cX10_delete 26 = .ok (.ireturn, 1) := by decide +kernel
theorem dX10_perform_0 : decode cX10_perform 0 = .ok (.aload_n 0, 1) := by decide +kernel
theorem dX10_perform_1 : decode cX10_perform 1 = .ok (.getfield 36, 3) := by decide +kernel
theorem dX10_perform_4 : decode cX10_perform 4 = .ok (.invokevirtual 139, 3) := by decide +kernel
theorem dX10_perform_7 : decode cX10_perform 7 = .ok (.istore_n 1, 1) := by decide +kernel
theorem dX10_perform_8 : decode cX10_perform 8 = .ok (.iload_n 1, 1) := by decide +kernel
theorem dX10_perform_9 : decode cX10_perform 9 = .ok (.ifCond .ge 5, 3) := by decide +kernel
theorem dX10_perform_12 : decode cX10_perform 12 = .ok (.iload_n 1, 1) := by decide +kernel
theorem dX10_perform_13 : decode cX10_perform 13 = .ok (.ireturn, 1) := by decide +kernel
theorem dX10_perform_14 : decode cX10_perform 14 = .ok (.aload_n 0, 1) := by decide +kernel
theorem dX10_perform_15 : decode cX10_perform 15 = .ok (.getfield 19, 3) := by decide +kernel
theorem dX10_perform_18 : decode cX10_perform 18 = .ok (.aload_n 0, 1) := by decide +kernel
theorem dX10_perform_19 : decode cX10_perform 19 = .ok (.getfield 10, 3) := by decide +kernel
theorem dX10_perform_22 : decode cX10_perform 22 = .ok (.getfield 58, 3) := by decide +kernel
theorem dX10_perform_25 : decode cX10_perform 25 = .ok (.invokevirtual 114, 3) := by decide +kernel
theorem dX10_perform_28 : decode cX10_perform 28 = .ok (.aload_n 0, 1) := by decide +kernel
theorem dX10_perform_29 : decode cX10_perform 29 = .ok (.getfield 36, 3) := by decide +kernel
theorem dX10_perform_32 : decode cX10_perform 32 = .ok (.invokevirtual 142, 3) := by decide +kernel
theorem dX10_perform_35 : decode cX10_perform 35 = .ok (.iconst 0, 1) := by decide +kernel
theorem dX10_perform_36 : decode cX10_perform 36 = .ok (.istore_n 2, 1) := by decide +kernel
theorem dX10_perform_37 : decode cX10_perform 37 = .ok (.iload_n 2, 1) := by decide +kernel
theorem dX10_perform_38 : decode cX10_perform 38 = .ok (.iload_n 1, 1) := by decide +kernel
theorem dX10_perform_39 : decode cX10_perform 39 = .ok (.if_icmp .ge 38, 3) := by decide +kernel
theorem dX10_perform_42 : decode cX10_perform 42 = .ok (.aload_n 0, 1) := by decide +kernel
theorem dX10_perform_43 : decode cX10_perform 43 = .ok (.getfield 36, 3) := by decide +kernel
theorem dX10_perform_46 : decode cX10_perform 46 = .ok (.invokevirtual 145, 3) := by decide +kernel
theorem dX10_perform_49 : decode cX10_perform 49 = .ok (.aload_n 0, 1) := by decide +kernel
theorem dX10_perform_50 : decode cX10_perform 50 = .ok (.invokevirtual 148, 3) := by decide +kernel
theorem dX10_perform_53 : decode cX10_perform 53 = .ok (.istore_n 3, 1) := by decide +kernel
theorem dX10_perform_54 : decode cX10_perform 54 = .ok (.iload_n 3, 1) := by decide +kernel
theorem dX10_perform_55 : decode cX10_perform 55 = .ok (.ifCond .ge 16, 3) := by decide +kernel
theorem dX10_perform_58 : decode cX10_perform 58 = .ok (.iload_n 3, 1) := by decide +kernel
theorem dX10_perform_59 : decode cX10_perform 59 = .ok (.sipush (-1006), 3) := by decide +kernel
theorem dX10_perform_62 : decode cX10_perform 62 = .ok (.if_icmp .eq 9, 3) := by decide +kernel
theorem dX10_perform_65 : decode cX10_perform 65 = .ok (.aload_n 0, 1) := by decide +kernel
theorem dX10_perform_66 : decode cX10_perform 66 = .ok (.iload_n 3, 1) := by decide +kernel
theorem dX10_perform_67 : decode cX10_perform 67 = .ok (.invokevirtual 121, 3) := by decide +kernel
theorem dX10_perform_70 : decode cX10_perform 70 = .ok (.ireturn, 1) := by decide +kernel
theorem dX10_perform_71 : decode cX10_perform 71 = .ok (.iinc 2 1, 3) := by decide +kernel
theorem dX10_perform_74 : decode cX10_perform 74 = .ok (.goto (-37), 3) := by decide +kernel
theorem dX10_perform_77 : decode cX10_perform 77 = .ok (.aload_n 0, 1) := by decide +kernel
theorem dX10_perform_78 : decode cX10_perform 78 = .ok (.iload_n 1, 1) := by decide +kernel
theorem dX10_perform_79 : decode cX10_perform 79 = .ok (.invokevirtual 121, 3) := by decide +kernel
theorem dX10_perform_82 : decode cX10_perform 82 = .ok (.ireturn, 1) := by decide +kernel
theorem dX10_undo_0 : decode cX10_undo 0 = .ok (.aload_n 0, 1) := by decide +kernel
theorem dX10_undo_1 : decode cX10_undo 1 = .ok (.getfield 29, 3) := by decide +kernel
theorem dX10_undo_4 : decode cX10_undo 4 = .ok (.aload_n 0, 1) := by decide +kernel
theorem dX10_undo_5 : decode cX10_undo 5 = .ok (.getfield 10, 3) := by decide +kernel
theorem dX10_undo_8 : decode cX10_undo 8 = .ok (.getfield 58, 3) := by decide +kernel
theorem dX10_undo_11 : decode cX10_undo 11 = .ok (.invokevirtual 151, 3) := by decide +kernel
theorem dX10_undo_14 : decode cX10_undo 14 = .ok (.ifCond .eq 13, 3) := by decide +kernel
theorem dX10_undo_17 : decode cX10_undo 17 = .ok (.aload_n 0, 1) := by decide +kernel
theorem dX10_undo_18 : decode cX10_undo 18 = .ok (.getfield 29, 3) := by decide +kernel
theorem dX10_undo_21 : decode cX10_undo 21 = .ok (.getfield 155, 3) := by decide +kernel
theorem dX10_undo_24 : decode cX10_undo 24 = .ok (.goto 6, 3) := by decide +kernel
theorem dX10_undo_27 : decode cX10_undo 27 = .ok (.sipush (-1006), 3) := by decide +kernel
theorem dX10_undo_30 : decode cX10_undo 30 = .ok (.ireturn, 1) := by decide +kernel
theorem dX10_restore_0 : decode cX10_restore 0 = .ok (.aload_n 0, 1) := by decide +kernel
theorem dX10_restore_1 : decode cX10_restore 1 = .ok (.getfield 156, 3) := by decide +kernel
theorem dX10_restore_4 : decode cX10_restore 4 = .ok (.ifCond .ne 7, 3) := by decide +kernel
theorem dX10_restore_7 : decode cX10_restore 7 = .ok (.sipush (-1006), 3) := by decide +kernel
theorem dX10_restore_10 : decode cX10_restore 10 = .ok (.ireturn, 1) := by decide +kernel
theorem dX10_restore_11 : decode cX10_restore 11 = .ok (.aload_n 0, 1) := by decide +kernel
theorem dX10_restore_12 : decode cX10_restore 12 = .ok (.getfield 29, 3) := by decide +kernel
theorem dX10_restore_15 : decode cX10_restore 15 = .ok (.aload_n 0, 1) := by decide +kernel
theorem dX10_restore_16 : decode cX10_restore 16 = .ok (.getfield 10, 3) := by decide +kernel
theorem dX10_restore_19 : decode cX10_restore 19 = .ok (.getfield 58, 3) := by decide +kernel
theorem dX10_restore_22 : decode cX10_restore 22 = .ok (.invokevirtual 71, 3) := by decide +kernel
theorem dX10_restore_25 : decode cX10_restore 25 = .ok (.aload_n 0, 1) := by decide +kernel
theorem dX10_restore_26 : decode cX10_restore 26 = .ok (.getfield 10, 3) := by decide +kernel
theorem dX10_restore_29 : decode cX10_restore 29 = .ok (.getfield 58, 3) := by decide +kernel
theorem dX10_restore_32 : decode cX10_restore 32 = .ok (.aload_n 0, 1) := by decide +kernel
theorem dX10_restore_33 : decode cX10_restore 33 = .ok (.getfield 23, 3) := by decide +kernel
theorem dX10_restore_36 : decode cX10_restore 36 = .ok (.invokevirtual 114, 3) := by decide +kernel
theorem dX10_restore_39 : decode cX10_restore 39 = .ok (.aload_n 0, 1) := by decide +kernel
theorem dX10_restore_40 : decode cX10_restore 40 = .ok (.getfield 23, 3) := by decide +kernel
theorem dX10_restore_43 : decode cX10_restore 43 = .ok (.getfield 159, 3) := by decide +kernel
theorem dX10_restore_46 : decode cX10_restore 46 = .ok (.getfield 163, 3) := by decide +kernel
theorem dX10_restore_49 : decode cX10_restore 49 = .ok (.ireturn, 1) := by decide +kernel
theorem dX10_field_0 : decode cX10_field 0 = .ok (.aload_n 0, 1) := by decide +kernel
theorem dX10_field_1 : decode cX10_field 1 = .ok (.getfield 10, 3) := by decide +kernel
theorem dX10_field_4 : decode cX10_field 4 = .ok (.getfield 58, 3) := by decide +kernel
theorem dX10_field_7 : decode cX10_field 7 = .ok (.getfield 159, 3) := by decide +kernel
theorem dX10_field_10 : decode cX10_field 10 = .ok (.iload_n 1, 1) := by decide +kernel
theorem dX10_field_11 : decode cX10_field 11 = .ok (.invokevirtual 166, 3) := by decide +kernel
theorem dX10_field_14 : decode cX10_field 14 = .ok (.astore_n 3, 1) := by decide +kernel
theorem dX10_field_15 : decode cX10_field 15 = .ok (.aload_n 3, 1) := by decide +kernel
theorem dX10_field_16 : decode cX10_field 16 = .ok (.ifnonnull 7, 3) := by decide +kernel
theorem dX10_field_19 : decode cX10_field 19 = .ok (.sipush (-1001), 3) := by decide +kernel
theorem dX10_field_22 : decode cX10_field 22 = .ok (.ireturn, 1) := by decide +kernel
theorem dX10_field_23 : decode cX10_field 23 = .ok (.iload_n 2, 1) := by decide +kernel
theorem dX10_field_24 : decode cX10_field 24 = .ok (.iconst 0, 1) := by decide +kernel
theorem dX10_field_25 : decode cX10_field 25 = .ok (.iconst 2, 1) := by decide +kernel
theorem dX10_field_26 : decode cX10_field 26 = .ok (.invokestatic 47, 3) := by decide +kernel
theorem dX10_field_29 : decode cX10_field 29 = .ok (.ifCond .eq 11, 3) := by decide +kernel
theorem dX10_field_32 : decode cX10_field 32 = .ok (.aload_n 3, 1) := by decide +kernel
theorem dX10_field_33 : decode cX10_field 33 = .ok (.iload_n 2, 1) := by decide +kernel
theorem dX10_field_34 : decode cX10_field 34 = .ok (.invokevirtual 170, 3) := by decide +kernel
theorem dX10_field_37 : decode cX10_field 37 = .ok (.goto 6, 3) := by decide +kernel
theorem dX10_field_40 : decode cX10_field 40 = .ok (.sipush (-1002), 3) := by decide +kernel
theorem dX10_field_43 : decode cX10_field 43 = .ok (.ireturn, 1) := by decide +kernel
theorem dX10_keyAt_0 : decode cX10_keyAt 0 = .ok (.iload_n 1, 1) := by decide +kernel
theorem dX10_keyAt_1 : decode cX10_keyAt 1 = .ok (.ifCond .ge 7, 3) := by decide +kernel
theorem dX10_keyAt_4 : decode cX10_keyAt 4 = .ok (.sipush (-1002), 3) := by decide +kernel
theorem dX10_keyAt_7 : decode cX10_keyAt 7 = .ok (.ireturn, 1) := by decide +kernel
theorem dX10_keyAt_8 : decode cX10_keyAt 8 = .ok (.aload_n 0, 1) := by decide +kernel
theorem dX10_keyAt_9 : decode cX10_keyAt 9 = .ok (.getfield 10, 3) := by decide +kernel
theorem dX10_keyAt_12 : decode cX10_keyAt 12 = .ok (.getfield 58, 3) := by decide +kernel
theorem dX10_keyAt_15 : decode cX10_keyAt 15 = .ok (.getfield 159, 3) := by decide +kernel
theorem dX10_keyAt_18 : decode cX10_keyAt 18 = .ok (.iload_n 1, 1) := by decide +kernel
theorem dX10_keyAt_19 : decode cX10_keyAt 19 = .ok (.invokevirtual 175, 3) := by decide +kernel
theorem dX10_keyAt_22 : decode cX10_keyAt 22 = .ok (.astore_n 2, 1) := by decide +kernel
theorem dX10_keyAt_23 : decode cX10_keyAt 23 = .ok (.aload_n 2, 1) := by decide +kernel
theorem dX10_keyAt_24 : decode cX10_keyAt 24 = .ok (.ifnonnull 9, 3) := by decide +kernel
theorem dX10_keyAt_27 : decode cX10_keyAt 27 = .ok (.sipush (-1006), 3) := by decide +kernel
theorem dX10_keyAt_30 : decode cX10_keyAt 30 = .ok (.goto 7, 3) := by decide +kernel
theorem dX10_keyAt_33 : decode cX10_keyAt 33 = .ok (.aload_n 2, 1) := by decide +kernel
theorem dX10_keyAt_34 : decode cX10_keyAt 34 = .ok (.getfield 178, 3) := by decide +kernel
theorem dX10_keyAt_37 : decode cX10_keyAt 37 = .ok (.ireturn, 1) := by decide +kernel
theorem dX10_rule_0 : decode cX10_rule 0 = .ok (.aload_n 0, 1) := by decide +kernel
theorem dX10_rule_1 : decode cX10_rule 1 = .ok (.getfield 10, 3) := by decide +kernel
theorem dX10_rule_4 : decode cX10_rule 4 = .ok (.getfield 58, 3) := by decide +kernel
theorem dX10_rule_7 : decode cX10_rule 7 = .ok (.getfield 61, 3) := by decide +kernel
theorem dX10_rule_10 : decode cX10_rule 10 = .ok (.iload_n 1, 1) := by decide +kernel
theorem dX10_rule_11 : decode cX10_rule 11 = .ok (.invokevirtual 85, 3) := by decide +kernel
theorem dX10_rule_14 : decode cX10_rule 14 = .ok (.astore_n 3, 1) := by decide +kernel
theorem dX10_rule_15 : decode cX10_rule 15 = .ok (.aload_n 3, 1) := by decide +kernel
theorem dX10_rule_16 : decode cX10_rule 16 = .ok (.ifnonnull 9, 3) := by decide +kernel
theorem dX10_rule_19 : decode cX10_rule 19 = .ok (.sipush (-1001), 3) := by decide +kernel
theorem dX10_rule_22 : decode cX10_rule 22 = .ok (.goto 8, 3) := by decide +kernel
theorem dX10_rule_25 : decode cX10_rule 25 = .ok (.aload_n 3, 1) := by decide +kernel
theorem dX10_rule_26 : decode cX10_rule 26 = .ok (.iload_n 2, 1) := by decide +kernel
theorem dX10_rule_27 : decode cX10_rule 27 = .ok (.invokevirtual 181, 3) := by decide +kernel
theorem dX10_rule_30 : decode cX10_rule 30 = .ok (.ireturn, 1) := by decide +kernel
theorem dX10_order_0 : decode cX10_order 0 = .ok (.iload_n 1, 1) := by decide +kernel
theorem dX10_order_1 : decode cX10_order 1 = .ok (.invokestatic 40, 3) := by decide +kernel
theorem dX10_order_4 : decode cX10_order 4 = .ok (.ifCond .eq 14, 3) := by decide +kernel
theorem dX10_order_7 : decode cX10_order 7 = .ok (.iload_n 2, 1) := by decide +kernel
theorem dX10_order_8 : decode cX10_order 8 = .ok (.invokestatic 44, 3) := by decide +kernel
theorem dX10_order_11 : decode cX10_order 11 = .ok (.ifCond .eq 7, 3) := by decide +kernel
theorem dX10_order_14 : decode cX10_order 14 = .ok (.iload_n 3, 1) := by decide +kernel
theorem dX10_order_15 : decode cX10_order 15 = .ok (.ifCond .ge 7, 3) := by decide +kernel
theorem dX10_order_18 : decode cX10_order 18 = .ok (.sipush (-1002), 3) := by decide +kernel
theorem dX10_order_21 : decode cX10_order 21 = .ok (.ireturn, 1) := by decide +kernel
theorem dX10_order_22 : decode cX10_order 22 = .ok (.aload_n 0, 1) := by decide +kernel
theorem dX10_order_23 : decode cX10_order 23 = .ok (.getfield 10, 3) := by decide +kernel
theorem dX10_order_26 : decode cX10_order 26 = .ok (.getfield 58, 3) := by decide +kernel
theorem dX10_order_29 : decode cX10_order 29 = .ok (.getfield 61, 3) := by decide +kernel
theorem dX10_order_32 : decode cX10_order 32 = .ok (.iload_n 1, 1) := by decide +kernel
theorem dX10_order_33 : decode cX10_order 33 = .ok (.iload_n 2, 1) := by decide +kernel
theorem dX10_order_34 : decode cX10_order 34 = .ok (.iload_n 3, 1) := by decide +kernel
theorem dX10_order_35 : decode cX10_order 35 = .ok (.invokevirtual 184, 3) := by decide +kernel
theorem dX10_order_38 : decode cX10_order 38 = .ok (.ireturn, 1) := by decide +kernel
theorem dX10_firing_0 : decode cX10_firing 0 = .ok (.iload_n 1, 1) := by decide +kernel
theorem dX10_firing_1 : decode cX10_firing 1 = .ok (.ifCond .lt 12, 3) := by decide +kernel
theorem dX10_firing_4 : decode cX10_firing 4 = .ok (.iload_n 2, 1) := by decide +kernel
theorem dX10_firing_5 : decode cX10_firing 5 = .ok (.iconst 0, 1) := by decide +kernel
theorem dX10_firing_6 : decode cX10_firing 6 = .ok (.iconst 2, 1) := by decide +kernel
theorem dX10_firing_7 : decode cX10_firing 7 = .ok (.invokestatic 47, 3) := by decide +kernel
theorem dX10_firing_10 : decode cX10_firing 10 = .ok (.ifCond .ne 7, 3) := by decide +kernel
theorem dX10_firing_13 : decode cX10_firing 13 = .ok (.sipush (-1002), 3) := by decide +kernel
theorem dX10_firing_16 : decode cX10_firing 16 = .ok (.ireturn, 1) := by decide +kernel
theorem dX10_firing_17 : decode cX10_firing 17 = .ok (.aload_n 0, 1) := by decide +kernel
theorem dX10_firing_18 : decode cX10_firing 18 = .ok (.getfield 10, 3) := by decide +kernel
theorem dX10_firing_21 : decode cX10_firing 21 = .ok (.getfield 58, 3) := by decide +kernel
theorem dX10_firing_24 : decode cX10_firing 24 = .ok (.getfield 187, 3) := by decide +kernel
theorem dX10_firing_27 : decode cX10_firing 27 = .ok (.iload_n 1, 1) := by decide +kernel
theorem dX10_firing_28 : decode cX10_firing 28 = .ok (.iload_n 2, 1) := by decide +kernel
theorem dX10_firing_29 : decode cX10_firing 29 = .ok (.invokevirtual 191, 3) := by decide +kernel
theorem dX10_firing_32 : decode cX10_firing 32 = .ok (.ireturn, 1) := by decide +kernel
theorem dX10_total_0 : decode cX10_total 0 = .ok (.iload_n 1, 1) := by decide +kernel
theorem dX10_total_1 : decode cX10_total 1 = .ok (.lookupswitch 43 #[(10, 27), (11, 35)], 27) := by decide +kernel
theorem dX10_total_28 : decode cX10_total 28 = .ok (.aload_n 0, 1) := by decide +kernel
theorem dX10_total_29 : decode cX10_total 29 = .ok (.getfield 29, 3) := by decide +kernel
theorem dX10_total_32 : decode cX10_total 32 = .ok (.getfield 155, 3) := by decide +kernel
theorem dX10_total_35 : decode cX10_total 35 = .ok (.ireturn, 1) := by decide +kernel
theorem dX10_total_36 : decode cX10_total 36 = .ok (.aload_n 0, 1) := by decide +kernel
theorem dX10_total_37 : decode cX10_total 37 = .ok (.getfield 36, 3) := by decide +kernel
theorem dX10_total_40 : decode cX10_total 40 = .ok (.getfield 136, 3) := by decide +kernel
theorem dX10_total_43 : decode cX10_total 43 = .ok (.ireturn, 1) := by decide +kernel
theorem dX10_total_44 : decode cX10_total 44 = .ok (.aload_n 0, 1) := by decide +kernel
theorem dX10_total_45 : decode cX10_total 45 = .ok (.getfield 10, 3) := by decide +kernel
theorem dX10_total_48 : decode cX10_total 48 = .ok (.getfield 58, 3) := by decide +kernel
theorem dX10_total_51 : decode cX10_total 51 = .ok (.iload_n 1, 1) := by decide +kernel
theorem dX10_total_52 : decode cX10_total 52 = .ok (.invokevirtual 196, 3) := by decide +kernel
theorem dX10_total_55 : decode cX10_total 55 = .ok (.ireturn, 1) := by decide +kernel
theorem dX10_ifInserted_0 : decode cX10_ifInserted 0 = .ok (.aload_n 0, 1) := by decide +kernel
theorem dX10_ifInserted_1 : decode cX10_ifInserted 1 = .ok (.getfield 10, 3) := by decide +kernel
theorem dX10_ifInserted_4 : decode cX10_ifInserted 4 = .ok (.iload_n 1, 1) := by decide +kernel
theorem dX10_ifInserted_5 : decode cX10_ifInserted 5 = .ok (.iload_n 2, 1) := by decide +kernel
theorem dX10_ifInserted_6 : decode cX10_ifInserted 6 = .ok (.iload_n 3, 1) := by decide +kernel
theorem dX10_ifInserted_7 : decode cX10_ifInserted 7 = .ok (.iload 4, 2) := by decide +kernel
theorem dX10_ifInserted_9 : decode cX10_ifInserted 9 = .ok (.invokevirtual 197, 3) := by decide +kernel
theorem dX10_ifInserted_12 : decode cX10_ifInserted 12 = .ok (.istore 6, 2) := by decide +kernel
theorem dX10_ifInserted_14 : decode cX10_ifInserted 14 = .ok (.iload 6, 2) := by decide +kernel
theorem dX10_ifInserted_16 : decode cX10_ifInserted 16 = .ok (.ifCond .eq 6, 3) := by decide +kernel
theorem dX10_ifInserted_19 : decode cX10_ifInserted 19 = .ok (.iload 6, 2) := by decide +kernel
theorem dX10_ifInserted_21 : decode cX10_ifInserted 21 = .ok (.ireturn, 1) := by decide +kernel
theorem dX10_ifInserted_22 : decode cX10_ifInserted 22 = .ok (.iload 5, 2) := by decide +kernel
theorem dX10_ifInserted_24 : decode cX10_ifInserted 24 = .ok (.invokestatic 200, 3) := by decide +kernel
theorem dX10_ifInserted_27 : decode cX10_ifInserted 27 = .ok (.ifCond .ne 7, 3) := by decide +kernel
theorem dX10_ifInserted_30 : decode cX10_ifInserted 30 = .ok (.sipush (-1002), 3) := by decide +kernel
theorem dX10_ifInserted_33 : decode cX10_ifInserted 33 = .ok (.ireturn, 1) := by decide +kernel
theorem dX10_ifInserted_34 : decode cX10_ifInserted 34 = .ok (.aload_n 0, 1) := by decide +kernel
theorem dX10_ifInserted_35 : decode cX10_ifInserted 35 = .ok (.getfield 19, 3) := by decide +kernel
theorem dX10_ifInserted_38 : decode cX10_ifInserted 38 = .ok (.aload_n 0, 1) := by decide +kernel
theorem dX10_ifInserted_39 : decode cX10_ifInserted 39 = .ok (.getfield 10, 3) := by decide +kernel
theorem dX10_ifInserted_42 : decode cX10_ifInserted 42 = .ok (.getfield 58, 3) := by decide +kernel
theorem dX10_ifInserted_45 : decode cX10_ifInserted 45 = .ok (.invokevirtual 114, 3) := by decide +kernel
theorem dX10_ifInserted_48 : decode cX10_ifInserted 48 = .ok (.aload_n 0, 1) := by decide +kernel
theorem dX10_ifInserted_49 : decode cX10_ifInserted 49 = .ok (.getfield 10, 3) := by decide +kernel
theorem dX10_ifInserted_52 : decode cX10_ifInserted 52 = .ok (.iload_n 1, 1) := by decide +kernel
theorem dX10_ifInserted_53 : decode cX10_ifInserted 53 = .ok (.iload_n 2, 1) := by decide +kernel
theorem dX10_ifInserted_54 : decode cX10_ifInserted 54 = .ok (.iload_n 3, 1) := by decide +kernel
theorem dX10_ifInserted_55 : decode cX10_ifInserted 55 = .ok (.iload 4, 2) := by decide +kernel
theorem dX10_ifInserted_57 : decode cX10_ifInserted 57 = .ok (.invokevirtual 117, 3) := by decide +kernel
theorem dX10_ifInserted_60 : decode cX10_ifInserted 60 = .ok (.pop, 1) := by decide +kernel
theorem dX10_ifInserted_61 : decode cX10_ifInserted 61 = .ok (.aload_n 0, 1) := by decide +kernel
theorem dX10_ifInserted_62 : decode cX10_ifInserted 62 = .ok (.getfield 10, 3) := by decide +kernel
theorem dX10_ifInserted_65 : decode cX10_ifInserted 65 = .ok (.getfield 58, 3) := by decide +kernel
theorem dX10_ifInserted_68 : decode cX10_ifInserted 68 = .ok (.aload_n 0, 1) := by decide +kernel
theorem dX10_ifInserted_69 : decode cX10_ifInserted 69 = .ok (.getfield 19, 3) := by decide +kernel
theorem dX10_ifInserted_72 : decode cX10_ifInserted 72 = .ok (.invokevirtual 114, 3) := by decide +kernel
theorem dX10_ifInserted_75 : decode cX10_ifInserted 75 = .ok (.aload_n 0, 1) := by decide +kernel
theorem dX10_ifInserted_76 : decode cX10_ifInserted 76 = .ok (.getfield 10, 3) := by decide +kernel
theorem dX10_ifInserted_79 : decode cX10_ifInserted 79 = .ok (.iload 5, 2) := by decide +kernel
theorem dX10_ifInserted_81 : decode cX10_ifInserted 81 = .ok (.invokevirtual 203, 3) := by decide +kernel
theorem dX10_ifInserted_84 : decode cX10_ifInserted 84 = .ok (.ireturn, 1) := by decide +kernel
theorem dX10_ifUpdated_0 : decode cX10_ifUpdated 0 = .ok (.aload_n 0, 1) := by decide +kernel
theorem dX10_ifUpdated_1 : decode cX10_ifUpdated 1 = .ok (.getfield 10, 3) := by decide +kernel
theorem dX10_ifUpdated_4 : decode cX10_ifUpdated 4 = .ok (.iload_n 1, 1) := by decide +kernel
theorem dX10_ifUpdated_5 : decode cX10_ifUpdated 5 = .ok (.iload_n 2, 1) := by decide +kernel
theorem dX10_ifUpdated_6 : decode cX10_ifUpdated 6 = .ok (.iload_n 3, 1) := by decide +kernel
theorem dX10_ifUpdated_7 : decode cX10_ifUpdated 7 = .ok (.invokevirtual 206, 3) := by decide +kernel
theorem dX10_ifUpdated_10 : decode cX10_ifUpdated 10 = .ok (.istore 5, 2) := by decide +kernel
theorem dX10_ifUpdated_12 : decode cX10_ifUpdated 12 = .ok (.iload 5, 2) := by decide +kernel
theorem dX10_ifUpdated_14 : decode cX10_ifUpdated 14 = .ok (.ifCond .eq 14, 3) := by decide +kernel
theorem dX10_ifUpdated_17 : decode cX10_ifUpdated 17 = .ok (.iload 5, 2) := by decide +kernel
theorem dX10_ifUpdated_19 : decode cX10_ifUpdated 19 = .ok (.sipush (-1006), 3) := by decide +kernel
theorem dX10_ifUpdated_22 : decode cX10_ifUpdated 22 = .ok (.if_icmp .eq 6, 3) := by decide +kernel
theorem dX10_ifUpdated_25 : decode cX10_ifUpdated 25 = .ok (.iload 5, 2) := by decide +kernel
theorem dX10_ifUpdated_27 : decode cX10_ifUpdated 27 = .ok (.ireturn, 1) := by decide +kernel
theorem dX10_ifUpdated_28 : decode cX10_ifUpdated 28 = .ok (.iload 4, 2) := by decide +kernel
theorem dX10_ifUpdated_30 : decode cX10_ifUpdated 30 = .ok (.invokestatic 200, 3) := by decide +kernel
theorem dX10_ifUpdated_33 : decode cX10_ifUpdated 33 = .ok (.ifCond .ne 7, 3) := by decide +kernel
theorem dX10_ifUpdated_36 : decode cX10_ifUpdated 36 = .ok (.sipush (-1002), 3) := by decide +kernel
theorem dX10_ifUpdated_39 : decode cX10_ifUpdated 39 = .ok (.ireturn, 1) := by decide +kernel
theorem dX10_ifUpdated_40 : decode cX10_ifUpdated 40 = .ok (.iload 5, 2) := by decide +kernel
theorem dX10_ifUpdated_42 : decode cX10_ifUpdated 42 = .ok (.sipush (-1006), 3) := by decide +kernel
theorem dX10_ifUpdated_45 : decode cX10_ifUpdated 45 = .ok (.if_icmp .ne 7, 3) := by decide +kernel
theorem dX10_ifUpdated_48 : decode cX10_ifUpdated 48 = .ok (.sipush (-1006), 3) := by decide +kernel
theorem dX10_ifUpdated_51 : decode cX10_ifUpdated 51 = .ok (.ireturn, 1) := by decide +kernel
theorem dX10_ifUpdated_52 : decode cX10_ifUpdated 52 = .ok (.aload_n 0, 1) := by decide +kernel
theorem dX10_ifUpdated_53 : decode cX10_ifUpdated 53 = .ok (.getfield 19, 3) := by decide +kernel
theorem dX10_ifUpdated_56 : decode cX10_ifUpdated 56 = .ok (.aload_n 0, 1) := by decide +kernel
theorem dX10_ifUpdated_57 : decode cX10_ifUpdated 57 = .ok (.getfield 10, 3) := by decide +kernel
theorem dX10_ifUpdated_60 : decode cX10_ifUpdated 60 = .ok (.getfield 58, 3) := by decide +kernel
theorem dX10_ifUpdated_63 : decode cX10_ifUpdated 63 = .ok (.invokevirtual 114, 3) := by decide +kernel
theorem dX10_ifUpdated_66 : decode cX10_ifUpdated 66 = .ok (.aload_n 0, 1) := by decide +kernel
theorem dX10_ifUpdated_67 : decode cX10_ifUpdated 67 = .ok (.getfield 10, 3) := by decide +kernel
theorem dX10_ifUpdated_70 : decode cX10_ifUpdated 70 = .ok (.iload_n 1, 1) := by decide +kernel
theorem dX10_ifUpdated_71 : decode cX10_ifUpdated 71 = .ok (.iload_n 2, 1) := by decide +kernel
theorem dX10_ifUpdated_72 : decode cX10_ifUpdated 72 = .ok (.iload_n 3, 1) := by decide +kernel
theorem dX10_ifUpdated_73 : decode cX10_ifUpdated 73 = .ok (.invokevirtual 125, 3) := by decide +kernel
theorem dX10_ifUpdated_76 : decode cX10_ifUpdated 76 = .ok (.pop, 1) := by decide +kernel
theorem dX10_ifUpdated_77 : decode cX10_ifUpdated 77 = .ok (.aload_n 0, 1) := by decide +kernel
theorem dX10_ifUpdated_78 : decode cX10_ifUpdated 78 = .ok (.getfield 10, 3) := by decide +kernel
theorem dX10_ifUpdated_81 : decode cX10_ifUpdated 81 = .ok (.getfield 58, 3) := by decide +kernel
theorem dX10_ifUpdated_84 : decode cX10_ifUpdated 84 = .ok (.aload_n 0, 1) := by decide +kernel
theorem dX10_ifUpdated_85 : decode cX10_ifUpdated 85 = .ok (.getfield 19, 3) := by decide +kernel
theorem dX10_ifUpdated_88 : decode cX10_ifUpdated 88 = .ok (.invokevirtual 114, 3) := by decide +kernel
theorem dX10_ifUpdated_91 : decode cX10_ifUpdated 91 = .ok (.aload_n 0, 1) := by decide +kernel
theorem dX10_ifUpdated_92 : decode cX10_ifUpdated 92 = .ok (.getfield 10, 3) := by decide +kernel
theorem dX10_ifUpdated_95 : decode cX10_ifUpdated 95 = .ok (.iload 4, 2) := by decide +kernel
theorem dX10_ifUpdated_97 : decode cX10_ifUpdated 97 = .ok (.invokevirtual 203, 3) := by decide +kernel
theorem dX10_ifUpdated_100 : decode cX10_ifUpdated 100 = .ok (.ireturn, 1) := by decide +kernel
theorem dX10_ifDeleted_0 : decode cX10_ifDeleted 0 = .ok (.aload_n 0, 1) := by decide +kernel
theorem dX10_ifDeleted_1 : decode cX10_ifDeleted 1 = .ok (.getfield 10, 3) := by decide +kernel
theorem dX10_ifDeleted_4 : decode cX10_ifDeleted 4 = .ok (.iload_n 1, 1) := by decide +kernel
theorem dX10_ifDeleted_5 : decode cX10_ifDeleted 5 = .ok (.invokevirtual 209, 3) := by decide +kernel
theorem dX10_ifDeleted_8 : decode cX10_ifDeleted 8 = .ok (.istore_n 3, 1) := by decide +kernel
theorem dX10_ifDeleted_9 : decode cX10_ifDeleted 9 = .ok (.iload_n 3, 1) := by decide +kernel
theorem dX10_ifDeleted_10 : decode cX10_ifDeleted 10 = .ok (.ifCond .eq 5, 3) := by decide +kernel
theorem dX10_ifDeleted_13 : decode cX10_ifDeleted 13 = .ok (.iload_n 3, 1) := by decide +kernel
theorem dX10_ifDeleted_14 : decode cX10_ifDeleted 14 = .ok (.ireturn, 1) := by decide +kernel
theorem dX10_ifDeleted_15 : decode cX10_ifDeleted 15 = .ok (.iload_n 2, 1) := by decide +kernel
theorem dX10_ifDeleted_16 : decode cX10_ifDeleted 16 = .ok (.invokestatic 200, 3) := by decide +kernel
theorem dX10_ifDeleted_19 : decode cX10_ifDeleted 19 = .ok (.ifCond .ne 7, 3) := by decide +kernel
theorem dX10_ifDeleted_22 : decode cX10_ifDeleted 22 = .ok (.sipush (-1002), 3) := by decide +kernel
theorem dX10_ifDeleted_25 : decode cX10_ifDeleted 25 = .ok (.ireturn, 1) := by decide +kernel
theorem dX10_ifDeleted_26 : decode cX10_ifDeleted 26 = .ok (.aload_n 0, 1) := by decide +kernel
theorem dX10_ifDeleted_27 : decode cX10_ifDeleted 27 = .ok (.getfield 19, 3) := by decide +kernel
theorem dX10_ifDeleted_30 : decode cX10_ifDeleted 30 = .ok (.aload_n 0, 1) := by decide +kernel
theorem dX10_ifDeleted_31 : decode cX10_ifDeleted 31 = .ok (.getfield 10, 3) := by decide +kernel
theorem dX10_ifDeleted_34 : decode cX10_ifDeleted 34 = .ok (.getfield 58, 3) := by decide +kernel
theorem dX10_ifDeleted_37 : decode cX10_ifDeleted 37 = .ok (.invokevirtual 114, 3) := by decide +kernel
theorem dX10_ifDeleted_40 : decode cX10_ifDeleted 40 = .ok (.aload_n 0, 1) := by decide +kernel
theorem dX10_ifDeleted_41 : decode cX10_ifDeleted 41 = .ok (.getfield 10, 3) := by decide +kernel
theorem dX10_ifDeleted_44 : decode cX10_ifDeleted 44 = .ok (.iload_n 1, 1) := by decide +kernel
theorem dX10_ifDeleted_45 : decode cX10_ifDeleted 45 = .ok (.invokevirtual 129, 3) := by decide +kernel
theorem dX10_ifDeleted_48 : decode cX10_ifDeleted 48 = .ok (.pop, 1) := by decide +kernel
theorem dX10_ifDeleted_49 : decode cX10_ifDeleted 49 = .ok (.aload_n 0, 1) := by decide +kernel
theorem dX10_ifDeleted_50 : decode cX10_ifDeleted 50 = .ok (.getfield 10, 3) := by decide +kernel
theorem dX10_ifDeleted_53 : decode cX10_ifDeleted 53 = .ok (.getfield 58, 3) := by decide +kernel
theorem dX10_ifDeleted_56 : decode cX10_ifDeleted 56 = .ok (.aload_n 0, 1) := by decide +kernel
theorem dX10_ifDeleted_57 : decode cX10_ifDeleted 57 = .ok (.getfield 19, 3) := by decide +kernel
theorem dX10_ifDeleted_60 : decode cX10_ifDeleted 60 = .ok (.invokevirtual 114, 3) := by decide +kernel
theorem dX10_ifDeleted_63 : decode cX10_ifDeleted 63 = .ok (.aload_n 0, 1) := by decide +kernel
theorem dX10_ifDeleted_64 : decode cX10_ifDeleted 64 = .ok (.getfield 10, 3) := by decide +kernel
theorem dX10_ifDeleted_67 : decode cX10_ifDeleted 67 = .ok (.iload_n 2, 1) := by decide +kernel
theorem dX10_ifDeleted_68 : decode cX10_ifDeleted 68 = .ok (.invokevirtual 203, 3) := by decide +kernel
theorem dX10_ifDeleted_71 : decode cX10_ifDeleted 71 = .ok (.ireturn, 1) := by decide +kernel
theorem dX10_depthFor_0 : decode cX10_depthFor 0 = .ok (.aload_n 0, 1) := by decide +kernel
theorem dX10_depthFor_1 : decode cX10_depthFor 1 = .ok (.getfield 10, 3) := by decide +kernel
theorem dX10_depthFor_4 : decode cX10_depthFor 4 = .ok (.iload_n 1, 1) := by decide +kernel
theorem dX10_depthFor_5 : decode cX10_depthFor 5 = .ok (.iload_n 2, 1) := by decide +kernel
theorem dX10_depthFor_6 : decode cX10_depthFor 6 = .ok (.iload_n 3, 1) := by decide +kernel
theorem dX10_depthFor_7 : decode cX10_depthFor 7 = .ok (.invokevirtual 206, 3) := by decide +kernel
theorem dX10_depthFor_10 : decode cX10_depthFor 10 = .ok (.istore 4, 2) := by decide +kernel
theorem dX10_depthFor_12 : decode cX10_depthFor 12 = .ok (.iload 4, 2) := by decide +kernel
theorem dX10_depthFor_14 : decode cX10_depthFor 14 = .ok (.ifCond .eq 6, 3) := by decide +kernel
theorem dX10_depthFor_17 : decode cX10_depthFor 17 = .ok (.iload 4, 2) := by decide +kernel
theorem dX10_depthFor_19 : decode cX10_depthFor 19 = .ok (.ireturn, 1) := by decide +kernel
theorem dX10_depthFor_20 : decode cX10_depthFor 20 = .ok (.aload_n 0, 1) := by decide +kernel
theorem dX10_depthFor_21 : decode cX10_depthFor 21 = .ok (.getfield 19, 3) := by decide +kernel
theorem dX10_depthFor_24 : decode cX10_depthFor 24 = .ok (.aload_n 0, 1) := by decide +kernel
theorem dX10_depthFor_25 : decode cX10_depthFor 25 = .ok (.getfield 10, 3) := by decide +kernel
theorem dX10_depthFor_28 : decode cX10_depthFor 28 = .ok (.getfield 58, 3) := by decide +kernel
theorem dX10_depthFor_31 : decode cX10_depthFor 31 = .ok (.invokevirtual 114, 3) := by decide +kernel
theorem dX10_depthFor_34 : decode cX10_depthFor 34 = .ok (.iconst 1, 1) := by decide +kernel
theorem dX10_depthFor_35 : decode cX10_depthFor 35 = .ok (.istore 5, 2) := by decide +kernel
theorem dX10_depthFor_37 : decode cX10_depthFor 37 = .ok (.iload 5, 2) := by decide +kernel
theorem dX10_depthFor_39 : decode cX10_depthFor 39 = .ok (.bipush 8, 2) := by decide +kernel
theorem dX10_depthFor_41 : decode cX10_depthFor 41 = .ok (.if_icmp .gt 58, 3) := by decide +kernel
theorem dX10_depthFor_44 : decode cX10_depthFor 44 = .ok (.aload_n 0, 1) := by decide +kernel
theorem dX10_depthFor_45 : decode cX10_depthFor 45 = .ok (.getfield 10, 3) := by decide +kernel
theorem dX10_depthFor_48 : decode cX10_depthFor 48 = .ok (.getfield 58, 3) := by decide +kernel
theorem dX10_depthFor_51 : decode cX10_depthFor 51 = .ok (.iload 5, 2) := by decide +kernel
theorem dX10_depthFor_53 : decode cX10_depthFor 53 = .ok (.putfield 108, 3) := by decide +kernel
theorem dX10_depthFor_56 : decode cX10_depthFor 56 = .ok (.aload_n 0, 1) := by decide +kernel
theorem dX10_depthFor_57 : decode cX10_depthFor 57 = .ok (.getfield 10, 3) := by decide +kernel
theorem dX10_depthFor_60 : decode cX10_depthFor 60 = .ok (.iload_n 1, 1) := by decide +kernel
theorem dX10_depthFor_61 : decode cX10_depthFor 61 = .ok (.iload_n 2, 1) := by decide +kernel
theorem dX10_depthFor_62 : decode cX10_depthFor 62 = .ok (.iload_n 3, 1) := by decide +kernel
theorem dX10_depthFor_63 : decode cX10_depthFor 63 = .ok (.invokevirtual 125, 3) := by decide +kernel
theorem dX10_depthFor_66 : decode cX10_depthFor 66 = .ok (.istore 6, 2) := by decide +kernel
theorem dX10_depthFor_68 : decode cX10_depthFor 68 = .ok (.aload_n 0, 1) := by decide +kernel
theorem dX10_depthFor_69 : decode cX10_depthFor 69 = .ok (.getfield 10, 3) := by decide +kernel
theorem dX10_depthFor_72 : decode cX10_depthFor 72 = .ok (.getfield 58, 3) := by decide +kernel
theorem dX10_depthFor_75 : decode cX10_depthFor 75 = .ok (.aload_n 0, 1) := by decide +kernel
theorem dX10_depthFor_76 : decode cX10_depthFor 76 = .ok (.getfield 19, 3) := by decide +kernel
theorem dX10_depthFor_79 : decode cX10_depthFor 79 = .ok (.invokevirtual 114, 3) := by decide +kernel
theorem dX10_depthFor_82 : decode cX10_depthFor 82 = .ok (.iload 6, 2) := by decide +kernel
theorem dX10_depthFor_84 : decode cX10_depthFor 84 = .ok (.sipush (-1005), 3) := by decide +kernel
theorem dX10_depthFor_87 : decode cX10_depthFor 87 = .ok (.if_icmp .eq 6, 3) := by decide +kernel
theorem dX10_depthFor_90 : decode cX10_depthFor 90 = .ok (.iload 5, 2) := by decide +kernel
theorem dX10_depthFor_92 : decode cX10_depthFor 92 = .ok (.ireturn, 1) := by decide +kernel
theorem dX10_depthFor_93 : decode cX10_depthFor 93 = .ok (.iinc 5 1, 3) := by decide +kernel
theorem dX10_depthFor_96 : decode cX10_depthFor 96 = .ok (.goto (-59), 3) := by decide +kernel
theorem dX10_depthFor_99 : decode cX10_depthFor 99 = .ok (.sipush (-1006), 3) := by decide +kernel
theorem dX10_depthFor_102 : decode cX10_depthFor 102 = .ok (.ireturn, 1) := by decide +kernel
theorem dX10_settle_0 : decode cX10_settle 0 = .ok (.iload_n 1, 1) := by decide +kernel
theorem dX10_settle_1 : decode cX10_settle 1 = .ok (.ifCond .ge 20, 3) := by decide +kernel
theorem dX10_settle_4 : decode cX10_settle 4 = .ok (.aload_n 0, 1) := by decide +kernel
theorem dX10_settle_5 : decode cX10_settle 5 = .ok (.getfield 10, 3) := by decide +kernel
theorem dX10_settle_8 : decode cX10_settle 8 = .ok (.getfield 58, 3) := by decide +kernel
theorem dX10_settle_11 : decode cX10_settle 11 = .ok (.aload_n 0, 1) := by decide +kernel
theorem dX10_settle_12 : decode cX10_settle 12 = .ok (.getfield 19, 3) := by decide +kernel
theorem dX10_settle_15 : decode cX10_settle 15 = .ok (.invokevirtual 114, 3) := by decide +kernel
theorem dX10_settle_18 : decode cX10_settle 18 = .ok (.goto 14, 3) := by decide +kernel
theorem dX10_settle_21 : decode cX10_settle 21 = .ok (.aload_n 0, 1) := by decide +kernel
theorem dX10_settle_22 : decode cX10_settle 22 = .ok (.getfield 29, 3) := by decide +kernel
theorem dX10_settle_25 : decode cX10_settle 25 = .ok (.aload_n 0, 1) := by decide +kernel
theorem dX10_settle_26 : decode cX10_settle 26 = .ok (.getfield 19, 3) := by decide +kernel
theorem dX10_settle_29 : decode cX10_settle 29 = .ok (.invokevirtual 71, 3) := by decide +kernel
theorem dX10_settle_32 : decode cX10_settle 32 = .ok (.iload_n 1, 1) := by decide +kernel
theorem dX10_settle_33 : decode cX10_settle 33 = .ok (.ireturn, 1) := by decide +kernel
theorem dX10_performStatement_0 : decode cX10_performStatement 0 = .ok (.aload_n 0, 1) := by decide +kernel
theorem dX10_performStatement_1 : decode cX10_performStatement 1 = .ok (.getfield 36, 3) := by decide +kernel
theorem dX10_performStatement_4 : decode cX10_performStatement 4 = .ok (.getfield 212, 3) := by decide +kernel
theorem dX10_performStatement_7 : decode cX10_performStatement 7 = .ok (.lookupswitch 90 #[(0, 25), (1, 61)], 25) := by decide +kernel
theorem dX10_performStatement_32 : decode cX10_performStatement 32 = .ok (.aload_n 0, 1) := by decide +kernel
theorem dX10_performStatement_33 : decode cX10_performStatement 33 = .ok (.getfield 10, 3) := by decide +kernel
theorem dX10_performStatement_36 : decode cX10_performStatement 36 = .ok (.aload_n 0, 1) := by decide +kernel
theorem dX10_performStatement_37 : decode cX10_performStatement 37 = .ok (.getfield 36, 3) := by decide +kernel
theorem dX10_performStatement_40 : decode cX10_performStatement 40 = .ok (.getfield 215, 3) := by decide +kernel
theorem dX10_performStatement_43 : decode cX10_performStatement 43 = .ok (.aload_n 0, 1) := by decide +kernel
theorem dX10_performStatement_44 : decode cX10_performStatement 44 = .ok (.getfield 36, 3) := by decide +kernel
theorem dX10_performStatement_47 : decode cX10_performStatement 47 = .ok (.getfield 216, 3) := by decide +kernel
theorem dX10_performStatement_50 : decode cX10_performStatement 50 = .ok (.aload_n 0, 1) := by decide +kernel
theorem dX10_performStatement_51 : decode cX10_performStatement 51 = .ok (.getfield 36, 3) := by decide +kernel
theorem dX10_performStatement_54 : decode cX10_performStatement 54 = .ok (.getfield 219, 3) := by decide +kernel
theorem dX10_performStatement_57 : decode cX10_performStatement 57 = .ok (.aload_n 0, 1) := by decide +kernel
theorem dX10_performStatement_58 : decode cX10_performStatement 58 = .ok (.getfield 36, 3) := by decide +kernel
theorem dX10_performStatement_61 : decode cX10_performStatement 61 = .ok (.getfield 222, 3) := by decide +kernel
theorem dX10_performStatement_64 : decode cX10_performStatement 64 = .ok (.invokevirtual 117, 3) := by decide +kernel
theorem dX10_performStatement_67 : decode cX10_performStatement 67 = .ok (.ireturn, 1) := by decide +kernel
theorem dX10_performStatement_68 : decode cX10_performStatement 68 = .ok (.aload_n 0, 1) := by decide +kernel
theorem dX10_performStatement_69 : decode cX10_performStatement 69 = .ok (.getfield 10, 3) := by decide +kernel
theorem dX10_performStatement_72 : decode cX10_performStatement 72 = .ok (.aload_n 0, 1) := by decide +kernel
theorem dX10_performStatement_73 : decode cX10_performStatement 73 = .ok (.getfield 36, 3) := by decide +kernel
theorem dX10_performStatement_76 : decode cX10_performStatement 76 = .ok (.getfield 215, 3) := by decide +kernel
theorem dX10_performStatement_79 : decode cX10_performStatement 79 = .ok (.aload_n 0, 1) := by decide +kernel
theorem dX10_performStatement_80 : decode cX10_performStatement 80 = .ok (.getfield 36, 3) := by decide +kernel
theorem dX10_performStatement_83 : decode cX10_performStatement 83 = .ok (.getfield 225, 3) := by decide +kernel
theorem dX10_performStatement_86 : decode cX10_performStatement 86 = .ok (.aload_n 0, 1) := by decide +kernel
theorem dX10_performStatement_87 : decode cX10_performStatement 87 = .ok (.getfield 36, 3) := by decide +kernel
theorem dX10_performStatement_90 : decode cX10_performStatement 90 = .ok (.getfield 216, 3) := by decide +kernel
theorem dX10_performStatement_93 : decode cX10_performStatement 93 = .ok (.invokevirtual 125, 3) := by decide +kernel
theorem dX10_performStatement_96 : decode cX10_performStatement 96 = .ok (.ireturn, 1) := by decide +kernel
theorem dX10_performStatement_97 : decode cX10_performStatement 97 = .ok (.aload_n 0, 1) := by decide +kernel
theorem dX10_performStatement_98 : decode cX10_performStatement 98 = .ok (.getfield 10, 3) := by decide +kernel
theorem dX10_performStatement_101 : decode cX10_performStatement 101 = .ok (.aload_n 0, 1) := by decide +kernel
theorem dX10_performStatement_102 : decode cX10_performStatement 102 = .ok (.getfield 36, 3) := by decide +kernel
theorem dX10_performStatement_105 : decode cX10_performStatement 105 = .ok (.getfield 215, 3) := by decide +kernel
theorem dX10_performStatement_108 : decode cX10_performStatement 108 = .ok (.invokevirtual 129, 3) := by decide +kernel
theorem dX10_performStatement_111 : decode cX10_performStatement 111 = .ok (.ireturn, 1) := by decide +kernel
theorem dX10_isReport_0 : decode cX10_isReport 0 = .ok (.iload_n 0, 1) := by decide +kernel
theorem dX10_isReport_1 : decode cX10_isReport 1 = .ok (.iconst 0, 1) := by decide +kernel
theorem dX10_isReport_2 : decode cX10_isReport 2 = .ok (.iconst 4, 1) := by decide +kernel
theorem dX10_isReport_3 : decode cX10_isReport 3 = .ok (.invokestatic 47, 3) := by decide +kernel
theorem dX10_isReport_6 : decode cX10_isReport 6 = .ok (.ireturn, 1) := by decide +kernel
theorem dX10_isEvent_0 : decode cX10_isEvent 0 = .ok (.iload_n 0, 1) := by decide +kernel
theorem dX10_isEvent_1 : decode cX10_isEvent 1 = .ok (.iconst 0, 1) := by decide +kernel
theorem dX10_isEvent_2 : decode cX10_isEvent 2 = .ok (.iconst 2, 1) := by decide +kernel
theorem dX10_isEvent_3 : decode cX10_isEvent 3 = .ok (.invokestatic 47, 3) := by decide +kernel
theorem dX10_isEvent_6 : decode cX10_isEvent 6 = .ok (.ireturn, 1) := by decide +kernel
theorem dX10_isMoment_0 : decode cX10_isMoment 0 = .ok (.iload_n 0, 1) := by decide +kernel
theorem dX10_isMoment_1 : decode cX10_isMoment 1 = .ok (.iconst 0, 1) := by decide +kernel
theorem dX10_isMoment_2 : decode cX10_isMoment 2 = .ok (.iconst 1, 1) := by decide +kernel
theorem dX10_isMoment_3 : decode cX10_isMoment 3 = .ok (.invokestatic 47, 3) := by decide +kernel
theorem dX10_isMoment_6 : decode cX10_isMoment 6 = .ok (.ireturn, 1) := by decide +kernel
theorem dX10_isKindFor_0 : decode cX10_isKindFor 0 = .ok (.iload_n 0, 1) := by decide +kernel
theorem dX10_isKindFor_1 : decode cX10_isKindFor 1 = .ok (.ifCond .ne 10, 3) := by decide +kernel
theorem dX10_isKindFor_4 : decode cX10_isKindFor 4 = .ok (.iload_n 1, 1) := by decide +kernel
theorem dX10_isKindFor_5 : decode cX10_isKindFor 5 = .ok (.iconst 0, 1) := by decide +kernel
theorem dX10_isKindFor_6 : decode cX10_isKindFor 6 = .ok (.iconst 2, 1) := by decide +kernel
theorem dX10_isKindFor_7 : decode cX10_isKindFor 7 = .ok (.invokestatic 47, 3) := by decide +kernel
theorem dX10_isKindFor_10 : decode cX10_isKindFor 10 = .ok (.ireturn, 1) := by decide +kernel
theorem dX10_isKindFor_11 : decode cX10_isKindFor 11 = .ok (.iload_n 1, 1) := by decide +kernel
theorem dX10_isKindFor_12 : decode cX10_isKindFor 12 = .ok (.iconst 1, 1) := by decide +kernel
theorem dX10_isKindFor_13 : decode cX10_isKindFor 13 = .ok (.if_icmp .eq 12, 3) := by decide +kernel
theorem dX10_isKindFor_16 : decode cX10_isKindFor 16 = .ok (.iload_n 1, 1) := by decide +kernel
theorem dX10_isKindFor_17 : decode cX10_isKindFor 17 = .ok (.iconst 3, 1) := by decide +kernel
theorem dX10_isKindFor_18 : decode cX10_isKindFor 18 = .ok (.iconst 5, 1) := by decide +kernel
theorem dX10_isKindFor_19 : decode cX10_isKindFor 19 = .ok (.invokestatic 47, 3) := by decide +kernel
theorem dX10_isKindFor_22 : decode cX10_isKindFor 22 = .ok (.ifCond .eq 7, 3) := by decide +kernel
theorem dX10_isKindFor_25 : decode cX10_isKindFor 25 = .ok (.iconst 1, 1) := by decide +kernel
theorem dX10_isKindFor_26 : decode cX10_isKindFor 26 = .ok (.goto 4, 3) := by decide +kernel
theorem dX10_isKindFor_29 : decode cX10_isKindFor 29 = .ok (.iconst 0, 1) := by decide +kernel
theorem dX10_isKindFor_30 : decode cX10_isKindFor 30 = .ok (.ireturn, 1) := by decide +kernel
theorem dX10_isValue_0 : decode cX10_isValue 0 = .ok (.iload_n 0, 1) := by decide +kernel
theorem dX10_isValue_1 : decode cX10_isValue 1 = .ok (.sipush (-999), 3) := by decide +kernel
theorem dX10_isValue_4 : decode cX10_isValue 4 = .ok (.sipush 999, 3) := by decide +kernel
theorem dX10_isValue_7 : decode cX10_isValue 7 = .ok (.invokestatic 47, 3) := by decide +kernel
theorem dX10_isValue_10 : decode cX10_isValue 10 = .ok (.ireturn, 1) := by decide +kernel
theorem dX10_within_0 : decode cX10_within 0 = .ok (.iload_n 0, 1) := by decide +kernel
theorem dX10_within_1 : decode cX10_within 1 = .ok (.iload_n 1, 1) := by decide +kernel
theorem dX10_within_2 : decode cX10_within 2 = .ok (.if_icmp .lt 12, 3) := by decide +kernel
theorem dX10_within_5 : decode cX10_within 5 = .ok (.iload_n 0, 1) := by decide +kernel
theorem dX10_within_6 : decode cX10_within 6 = .ok (.iload_n 2, 1) := by decide +kernel
theorem dX10_within_7 : decode cX10_within 7 = .ok (.if_icmp .gt 7, 3) := by decide +kernel
theorem dX10_within_10 : decode cX10_within 10 = .ok (.iconst 1, 1) := by decide +kernel
theorem dX10_within_11 : decode cX10_within 11 = .ok (.goto 4, 3) := by decide +kernel
theorem dX10_within_14 : decode cX10_within 14 = .ok (.iconst 0, 1) := by decide +kernel
theorem dX10_within_15 : decode cX10_within 15 = .ok (.ireturn, 1) := by decide +kernel
theorem dL_cell_0 : decode cL_cell 0 = .ok (.iload_n 1, 1) := by decide +kernel
theorem dL_cell_1 : decode cL_cell 1 = .ok (.aload_n 0, 1) := by decide +kernel
theorem dL_cell_2 : decode cL_cell 2 = .ok (.arraylength, 1) := by decide +kernel
theorem dL_cell_3 : decode cL_cell 3 = .ok (.if_icmp .ge 9, 3) := by decide +kernel
theorem dL_cell_6 : decode cL_cell 6 = .ok (.aload_n 0, 1) := by decide +kernel
theorem dL_cell_7 : decode cL_cell 7 = .ok (.iload_n 1, 1) := by decide +kernel
theorem dL_cell_8 : decode cL_cell 8 = .ok (.iaload, 1) := by decide +kernel
theorem dL_cell_9 : decode cL_cell 9 = .ok (.goto 15, 3) := by decide +kernel
theorem dL_cell_12 : decode cL_cell 12 = .ok (.sipush 7919, 3) := by decide +kernel
theorem dL_cell_15 : decode cL_cell 15 = .ok (.iload_n 1, 1) := by decide +kernel
theorem dL_cell_16 : decode cL_cell 16 = .ok (.iconst 3, 1) := by decide +kernel
theorem dL_cell_17 : decode cL_cell 17 = .ok (.iadd, 1) := by decide +kernel
theorem dL_cell_18 : decode cL_cell 18 = .ok (.imul, 1) := by decide +kernel
theorem dL_cell_19 : decode cL_cell 19 = .ok (.iload_n 1, 1) := by decide +kernel
theorem dL_cell_20 : decode cL_cell 20 = .ok (.bipush 11, 2) := by decide +kernel
theorem dL_cell_22 : decode cL_cell 22 = .ok (.iadd, 1) := by decide +kernel
theorem dL_cell_23 : decode cL_cell 23 = .ok (.imul, 1) := by decide +kernel
theorem dL_cell_24 : decode cL_cell 24 = .ok (.ireturn, 1) := by decide +kernel
theorem dL_low_0 : decode cL_low 0 = .ok (.iload_n 0, 1) := by decide +kernel
theorem dL_low_1 : decode cL_low 1 = .ok (.ldc 7, 2) := by decide +kernel
theorem dL_low_3 : decode cL_low 3 = .ok (.iand, 1) := by decide +kernel
theorem dL_low_4 : decode cL_low 4 = .ok (.iload_n 1, 1) := by decide +kernel
theorem dL_low_5 : decode cL_low 5 = .ok (.irem, 1) := by decide +kernel
theorem dL_low_6 : decode cL_low 6 = .ok (.ireturn, 1) := by decide +kernel
theorem dL_value_0 : decode cL_value 0 = .ok (.iload_n 0, 1) := by decide +kernel
theorem dL_value_1 : decode cL_value 1 = .ok (.bipush 7, 2) := by decide +kernel
theorem dL_value_3 : decode cL_value 3 = .ok (.invokestatic 8, 3) := by decide +kernel
theorem dL_value_6 : decode cL_value 6 = .ok (.ifCond .ne 19, 3) := by decide +kernel
theorem dL_value_9 : decode cL_value 9 = .ok (.iload_n 0, 1) := by decide +kernel
theorem dL_value_10 : decode cL_value 10 = .ok (.iconst 3, 1) := by decide +kernel
theorem dL_value_11 : decode cL_value 11 = .ok (.ishr, 1) := by decide +kernel
theorem dL_value_12 : decode cL_value 12 = .ok (.sipush 1999, 3) := by decide +kernel
theorem dL_value_15 : decode cL_value 15 = .ok (.invokestatic 8, 3) := by decide +kernel
theorem dL_value_18 : decode cL_value 18 = .ok (.sipush 999, 3) := by decide +kernel
theorem dL_value_21 : decode cL_value 21 = .ok (.isub, 1) := by decide +kernel
theorem dL_value_22 : decode cL_value 22 = .ok (.goto 13, 3) := by decide +kernel
theorem dL_value_25 : decode cL_value 25 = .ok (.iload_n 0, 1) := by decide +kernel
theorem dL_value_26 : decode cL_value 26 = .ok (.iconst 3, 1) := by decide +kernel
theorem dL_value_27 : decode cL_value 27 = .ok (.ishr, 1) := by decide +kernel
theorem dL_value_28 : decode cL_value 28 = .ok (.bipush 24, 2) := by decide +kernel
theorem dL_value_30 : decode cL_value 30 = .ok (.invokestatic 8, 3) := by decide +kernel
theorem dL_value_33 : decode cL_value 33 = .ok (.iconst 4, 1) := by decide +kernel
theorem dL_value_34 : decode cL_value 34 = .ok (.isub, 1) := by decide +kernel
theorem dL_value_35 : decode cL_value 35 = .ok (.ireturn, 1) := by decide +kernel
theorem dL_areRows_0 : decode cL_areRows 0 = .ok (.aload_n 0, 1) := by decide +kernel
theorem dL_areRows_1 : decode cL_areRows 1 = .ok (.iconst 0, 1) := by decide +kernel
theorem dL_areRows_2 : decode cL_areRows 2 = .ok (.invokevirtual 14, 3) := by decide +kernel
theorem dL_areRows_5 : decode cL_areRows 5 = .ok (.istore_n 1, 1) := by decide +kernel
theorem dL_areRows_6 : decode cL_areRows 6 = .ok (.iconst (-1), 1) := by decide +kernel
theorem dL_areRows_7 : decode cL_areRows 7 = .ok (.istore_n 2, 1) := by decide +kernel
theorem dL_areRows_8 : decode cL_areRows 8 = .ok (.iconst 0, 1) := by decide +kernel
theorem dL_areRows_9 : decode cL_areRows 9 = .ok (.istore_n 3, 1) := by decide +kernel
theorem dL_areRows_10 : decode cL_areRows 10 = .ok (.iload_n 3, 1) := by decide +kernel
theorem dL_areRows_11 : decode cL_areRows 11 = .ok (.iload_n 1, 1) := by decide +kernel
theorem dL_areRows_12 : decode cL_areRows 12 = .ok (.if_icmp .ge 98, 3) := by decide +kernel
theorem dL_areRows_15 : decode cL_areRows 15 = .ok (.iload_n 3, 1) := by decide +kernel
theorem dL_areRows_16 : decode cL_areRows 16 = .ok (.bipush 20, 2) := by decide +kernel
theorem dL_areRows_18 : decode cL_areRows 18 = .ok (.if_icmp .ge 92, 3) := by decide +kernel
theorem dL_areRows_21 : decode cL_areRows 21 = .ok (.aload_n 0, 1) := by decide +kernel
theorem dL_areRows_22 : decode cL_areRows 22 = .ok (.iload_n 3, 1) := by decide +kernel
theorem dL_areRows_23 : decode cL_areRows 23 = .ok (.invokevirtual 20, 3) := by decide +kernel
theorem dL_areRows_26 : decode cL_areRows 26 = .ok (.istore 4, 2) := by decide +kernel
theorem dL_areRows_28 : decode cL_areRows 28 = .ok (.iload 4, 2) := by decide +kernel
theorem dL_areRows_30 : decode cL_areRows 30 = .ok (.iload_n 2, 1) := by decide +kernel
theorem dL_areRows_31 : decode cL_areRows 31 = .ok (.if_icmp .le 23, 3) := by decide +kernel
theorem dL_areRows_34 : decode cL_areRows 34 = .ok (.iload 4, 2) := by decide +kernel
theorem dL_areRows_36 : decode cL_areRows 36 = .ok (.bipush 99, 2) := by decide +kernel
theorem dL_areRows_38 : decode cL_areRows 38 = .ok (.if_icmp .gt 16, 3) := by decide +kernel
theorem dL_areRows_41 : decode cL_areRows 41 = .ok (.aload_n 0, 1) := by decide +kernel
theorem dL_areRows_42 : decode cL_areRows 42 = .ok (.iload 4, 2) := by decide +kernel
theorem dL_areRows_44 : decode cL_areRows 44 = .ok (.iconst 3, 1) := by decide +kernel
theorem dL_areRows_45 : decode cL_areRows 45 = .ok (.invokevirtual 23, 3) := by decide +kernel
theorem dL_areRows_48 : decode cL_areRows 48 = .ok (.sipush (-1002), 3) := by decide +kernel
theorem dL_areRows_51 : decode cL_areRows 51 = .ok (.if_icmp .eq 5, 3) := by decide +kernel
theorem dL_areRows_54 : decode cL_areRows 54 = .ok (.iconst 0, 1) := by decide +kernel
theorem dL_areRows_55 : decode cL_areRows 55 = .ok (.ireturn, 1) := by decide +kernel
theorem dL_areRows_56 : decode cL_areRows 56 = .ok (.iconst 0, 1) := by decide +kernel
theorem dL_areRows_57 : decode cL_areRows 57 = .ok (.istore 5, 2) := by decide +kernel
theorem dL_areRows_59 : decode cL_areRows 59 = .ok (.iload 5, 2) := by decide +kernel
theorem dL_areRows_61 : decode cL_areRows 61 = .ok (.iconst 3, 1) := by decide +kernel
theorem dL_areRows_62 : decode cL_areRows 62 = .ok (.if_icmp .ge 39, 3) := by decide +kernel
theorem dL_areRows_65 : decode cL_areRows 65 = .ok (.aload_n 0, 1) := by decide +kernel
theorem dL_areRows_66 : decode cL_areRows 66 = .ok (.iload 4, 2) := by decide +kernel
theorem dL_areRows_68 : decode cL_areRows 68 = .ok (.iload 5, 2) := by decide +kernel
theorem dL_areRows_70 : decode cL_areRows 70 = .ok (.invokevirtual 23, 3) := by decide +kernel
theorem dL_areRows_73 : decode cL_areRows 73 = .ok (.sipush (-999), 3) := by decide +kernel
theorem dL_areRows_76 : decode cL_areRows 76 = .ok (.if_icmp .lt 17, 3) := by decide +kernel
theorem dL_areRows_79 : decode cL_areRows 79 = .ok (.aload_n 0, 1) := by decide +kernel
theorem dL_areRows_80 : decode cL_areRows 80 = .ok (.iload 4, 2) := by decide +kernel
theorem dL_areRows_82 : decode cL_areRows 82 = .ok (.iload 5, 2) := by decide +kernel
theorem dL_areRows_84 : decode cL_areRows 84 = .ok (.invokevirtual 23, 3) := by decide +kernel
theorem dL_areRows_87 : decode cL_areRows 87 = .ok (.sipush 999, 3) := by decide +kernel
theorem dL_areRows_90 : decode cL_areRows 90 = .ok (.if_icmp .le 5, 3) := by decide +kernel
theorem dL_areRows_93 : decode cL_areRows 93 = .ok (.iconst 0, 1) := by decide +kernel
theorem dL_areRows_94 : decode cL_areRows 94 = .ok (.ireturn, 1) := by decide +kernel
theorem dL_areRows_95 : decode cL_areRows 95 = .ok (.iinc 5 1, 3) := by decide +kernel
theorem dL_areRows_98 : decode cL_areRows 98 = .ok (.goto (-39), 3) := by decide +kernel
theorem dL_areRows_101 : decode cL_areRows 101 = .ok (.iload 4, 2) := by decide +kernel
theorem dL_areRows_103 : decode cL_areRows 103 = .ok (.istore_n 2, 1) := by decide +kernel
theorem dL_areRows_104 : decode cL_areRows 104 = .ok (.iinc 3 1, 3) := by decide +kernel
theorem dL_areRows_107 : decode cL_areRows 107 = .ok (.goto (-97), 3) := by decide +kernel
theorem dL_areRows_110 : decode cL_areRows 110 = .ok (.iload_n 1, 1) := by decide +kernel
theorem dL_areRows_111 : decode cL_areRows 111 = .ok (.ifCond .lt 35, 3) := by decide +kernel
theorem dL_areRows_114 : decode cL_areRows 114 = .ok (.iload_n 1, 1) := by decide +kernel
theorem dL_areRows_115 : decode cL_areRows 115 = .ok (.bipush 20, 2) := by decide +kernel
theorem dL_areRows_117 : decode cL_areRows 117 = .ok (.if_icmp .gt 29, 3) := by decide +kernel
theorem dL_areRows_120 : decode cL_areRows 120 = .ok (.aload_n 0, 1) := by decide +kernel
theorem dL_areRows_121 : decode cL_areRows 121 = .ok (.iload_n 1, 1) := by decide +kernel
theorem dL_areRows_122 : decode cL_areRows 122 = .ok (.invokevirtual 20, 3) := by decide +kernel
theorem dL_areRows_125 : decode cL_areRows 125 = .ok (.sipush (-1006), 3) := by decide +kernel
theorem dL_areRows_128 : decode cL_areRows 128 = .ok (.if_icmp .ne 18, 3) := by decide +kernel
theorem dL_areRows_131 : decode cL_areRows 131 = .ok (.aload_n 0, 1) := by decide +kernel
theorem dL_areRows_132 : decode cL_areRows 132 = .ok (.iconst (-1), 1) := by decide +kernel
theorem dL_areRows_133 : decode cL_areRows 133 = .ok (.invokevirtual 20, 3) := by decide +kernel
theorem dL_areRows_136 : decode cL_areRows 136 = .ok (.sipush (-1002), 3) := by decide +kernel
theorem dL_areRows_139 : decode cL_areRows 139 = .ok (.if_icmp .ne 7, 3) := by decide +kernel
theorem dL_areRows_142 : decode cL_areRows 142 = .ok (.iconst 1, 1) := by decide +kernel
theorem dL_areRows_143 : decode cL_areRows 143 = .ok (.goto 4, 3) := by decide +kernel
theorem dL_areRows_146 : decode cL_areRows 146 = .ok (.iconst 0, 1) := by decide +kernel
theorem dL_areRows_147 : decode cL_areRows 147 = .ok (.ireturn, 1) := by decide +kernel
theorem dL_areRules_0 : decode cL_areRules 0 = .ok (.aload_n 0, 1) := by decide +kernel
theorem dL_areRules_1 : decode cL_areRules 1 = .ok (.iconst 1, 1) := by decide +kernel
theorem dL_areRules_2 : decode cL_areRules 2 = .ok (.invokevirtual 14, 3) := by decide +kernel
theorem dL_areRules_5 : decode cL_areRules 5 = .ok (.istore_n 1, 1) := by decide +kernel
theorem dL_areRules_6 : decode cL_areRules 6 = .ok (.iconst 0, 1) := by decide +kernel
theorem dL_areRules_7 : decode cL_areRules 7 = .ok (.istore_n 2, 1) := by decide +kernel
theorem dL_areRules_8 : decode cL_areRules 8 = .ok (.iconst 0, 1) := by decide +kernel
theorem dL_areRules_9 : decode cL_areRules 9 = .ok (.istore_n 3, 1) := by decide +kernel
theorem dL_areRules_10 : decode cL_areRules 10 = .ok (.iconst 0, 1) := by decide +kernel
theorem dL_areRules_11 : decode cL_areRules 11 = .ok (.istore 4, 2) := by decide +kernel
theorem dL_areRules_13 : decode cL_areRules 13 = .ok (.iload 4, 2) := by decide +kernel
theorem dL_areRules_15 : decode cL_areRules 15 = .ok (.iload_n 1, 1) := by decide +kernel
theorem dL_areRules_16 : decode cL_areRules 16 = .ok (.if_icmp .ge 27, 3) := by decide +kernel
theorem dL_areRules_19 : decode cL_areRules 19 = .ok (.iload 4, 2) := by decide +kernel
theorem dL_areRules_21 : decode cL_areRules 21 = .ok (.bipush 12, 2) := by decide +kernel
theorem dL_areRules_23 : decode cL_areRules 23 = .ok (.if_icmp .ge 20, 3) := by decide +kernel
theorem dL_areRules_26 : decode cL_areRules 26 = .ok (.iload_n 2, 1) := by decide +kernel
theorem dL_areRules_27 : decode cL_areRules 27 = .ok (.aload_n 0, 1) := by decide +kernel
theorem dL_areRules_28 : decode cL_areRules 28 = .ok (.iload 4, 2) := by decide +kernel
theorem dL_areRules_30 : decode cL_areRules 30 = .ok (.bipush 10, 2) := by decide +kernel
theorem dL_areRules_32 : decode cL_areRules 32 = .ok (.invokevirtual 26, 3) := by decide +kernel
theorem dL_areRules_35 : decode cL_areRules 35 = .ok (.iadd, 1) := by decide +kernel
theorem dL_areRules_36 : decode cL_areRules 36 = .ok (.istore_n 2, 1) := by decide +kernel
theorem dL_areRules_37 : decode cL_areRules 37 = .ok (.iinc 4 1, 3) := by decide +kernel
theorem dL_areRules_40 : decode cL_areRules 40 = .ok (.goto (-27), 3) := by decide +kernel
theorem dL_areRules_43 : decode cL_areRules 43 = .ok (.iconst 0, 1) := by decide +kernel
theorem dL_areRules_44 : decode cL_areRules 44 = .ok (.istore 4, 2) := by decide +kernel
theorem dL_areRules_46 : decode cL_areRules 46 = .ok (.iload 4, 2) := by decide +kernel
theorem dL_areRules_48 : decode cL_areRules 48 = .ok (.bipush 6, 2) := by decide +kernel
theorem dL_areRules_50 : decode cL_areRules 50 = .ok (.if_icmp .ge 143, 3) := by decide +kernel
theorem dL_areRules_53 : decode cL_areRules 53 = .ok (.iconst (-1), 1) := by decide +kernel
theorem dL_areRules_54 : decode cL_areRules 54 = .ok (.istore 5, 2) := by decide +kernel
theorem dL_areRules_56 : decode cL_areRules 56 = .ok (.iconst (-1), 1) := by decide +kernel
theorem dL_areRules_57 : decode cL_areRules 57 = .ok (.istore 6, 2) := by decide +kernel
theorem dL_areRules_59 : decode cL_areRules 59 = .ok (.iconst 0, 1) := by decide +kernel
theorem dL_areRules_60 : decode cL_areRules 60 = .ok (.istore 7, 2) := by decide +kernel
theorem dL_areRules_62 : decode cL_areRules 62 = .ok (.iload 7, 2) := by decide +kernel
theorem dL_areRules_64 : decode cL_areRules 64 = .ok (.bipush 12, 2) := by decide +kernel
theorem dL_areRules_66 : decode cL_areRules 66 = .ok (.if_icmp .ge 116, 3) := by decide +kernel
theorem dL_areRules_69 : decode cL_areRules 69 = .ok (.aload_n 0, 1) := by decide +kernel
theorem dL_areRules_70 : decode cL_areRules 70 = .ok (.iload 4, 2) := by decide +kernel
theorem dL_areRules_72 : decode cL_areRules 72 = .ok (.iconst 2, 1) := by decide +kernel
theorem dL_areRules_73 : decode cL_areRules 73 = .ok (.idiv, 1) := by decide +kernel
theorem dL_areRules_74 : decode cL_areRules 74 = .ok (.iload 4, 2) := by decide +kernel
theorem dL_areRules_76 : decode cL_areRules 76 = .ok (.iconst 2, 1) := by decide +kernel
theorem dL_areRules_77 : decode cL_areRules 77 = .ok (.irem, 1) := by decide +kernel
theorem dL_areRules_78 : decode cL_areRules 78 = .ok (.iload 7, 2) := by decide +kernel
theorem dL_areRules_80 : decode cL_areRules 80 = .ok (.invokevirtual 29, 3) := by decide +kernel
theorem dL_areRules_83 : decode cL_areRules 83 = .ok (.ifCond .lt 99, 3) := by decide +kernel
theorem dL_areRules_86 : decode cL_areRules 86 = .ok (.aload_n 0, 1) := by decide +kernel
theorem dL_areRules_87 : decode cL_areRules 87 = .ok (.iload 4, 2) := by decide +kernel
theorem dL_areRules_89 : decode cL_areRules 89 = .ok (.iconst 2, 1) := by decide +kernel
theorem dL_areRules_90 : decode cL_areRules 90 = .ok (.idiv, 1) := by decide +kernel
theorem dL_areRules_91 : decode cL_areRules 91 = .ok (.iload 4, 2) := by decide +kernel
theorem dL_areRules_93 : decode cL_areRules 93 = .ok (.iconst 2, 1) := by decide +kernel
theorem dL_areRules_94 : decode cL_areRules 94 = .ok (.irem, 1) := by decide +kernel
theorem dL_areRules_95 : decode cL_areRules 95 = .ok (.iload 7, 2) := by decide +kernel
theorem dL_areRules_97 : decode cL_areRules 97 = .ok (.invokevirtual 29, 3) := by decide +kernel
theorem dL_areRules_100 : decode cL_areRules 100 = .ok (.istore 8, 2) := by decide +kernel
theorem dL_areRules_102 : decode cL_areRules 102 = .ok (.aload_n 0, 1) := by decide +kernel
theorem dL_areRules_103 : decode cL_areRules 103 = .ok (.iload 8, 2) := by decide +kernel
theorem dL_areRules_105 : decode cL_areRules 105 = .ok (.iconst 0, 1) := by decide +kernel
theorem dL_areRules_106 : decode cL_areRules 106 = .ok (.invokevirtual 26, 3) := by decide +kernel
theorem dL_areRules_109 : decode cL_areRules 109 = .ok (.iload 4, 2) := by decide +kernel
theorem dL_areRules_111 : decode cL_areRules 111 = .ok (.iconst 2, 1) := by decide +kernel
theorem dL_areRules_112 : decode cL_areRules 112 = .ok (.idiv, 1) := by decide +kernel
theorem dL_areRules_113 : decode cL_areRules 113 = .ok (.if_icmp .ne 48, 3) := by decide +kernel
theorem dL_areRules_116 : decode cL_areRules 116 = .ok (.aload_n 0, 1) := by decide +kernel
theorem dL_areRules_117 : decode cL_areRules 117 = .ok (.iload 8, 2) := by decide +kernel
theorem dL_areRules_119 : decode cL_areRules 119 = .ok (.iconst 1, 1) := by decide +kernel
theorem dL_areRules_120 : decode cL_areRules 120 = .ok (.invokevirtual 26, 3) := by decide +kernel
theorem dL_areRules_123 : decode cL_areRules 123 = .ok (.iload 4, 2) := by decide +kernel
theorem dL_areRules_125 : decode cL_areRules 125 = .ok (.iconst 2, 1) := by decide +kernel
theorem dL_areRules_126 : decode cL_areRules 126 = .ok (.irem, 1) := by decide +kernel
theorem dL_areRules_127 : decode cL_areRules 127 = .ok (.if_icmp .ne 34, 3) := by decide +kernel
theorem dL_areRules_130 : decode cL_areRules 130 = .ok (.aload_n 0, 1) := by decide +kernel
theorem dL_areRules_131 : decode cL_areRules 131 = .ok (.iload 8, 2) := by decide +kernel
theorem dL_areRules_133 : decode cL_areRules 133 = .ok (.iconst 2, 1) := by decide +kernel
theorem dL_areRules_134 : decode cL_areRules 134 = .ok (.invokevirtual 26, 3) := by decide +kernel
theorem dL_areRules_137 : decode cL_areRules 137 = .ok (.iload 5, 2) := by decide +kernel
theorem dL_areRules_139 : decode cL_areRules 139 = .ok (.if_icmp .lt 22, 3) := by decide +kernel
theorem dL_areRules_142 : decode cL_areRules 142 = .ok (.aload_n 0, 1) := by decide +kernel
theorem dL_areRules_143 : decode cL_areRules 143 = .ok (.iload 8, 2) := by decide +kernel
theorem dL_areRules_145 : decode cL_areRules 145 = .ok (.iconst 2, 1) := by decide +kernel
theorem dL_areRules_146 : decode cL_areRules 146 = .ok (.invokevirtual 26, 3) := by decide +kernel
theorem dL_areRules_149 : decode cL_areRules 149 = .ok (.iload 5, 2) := by decide +kernel
theorem dL_areRules_151 : decode cL_areRules 151 = .ok (.if_icmp .ne 12, 3) := by decide +kernel
theorem dL_areRules_154 : decode cL_areRules 154 = .ok (.iload 8, 2) := by decide +kernel
theorem dL_areRules_156 : decode cL_areRules 156 = .ok (.iload 6, 2) := by decide +kernel
theorem dL_areRules_158 : decode cL_areRules 158 = .ok (.if_icmp .gt 5, 3) := by decide +kernel
theorem dL_areRules_161 : decode cL_areRules 161 = .ok (.iconst 0, 1) := by decide +kernel
theorem dL_areRules_162 : decode cL_areRules 162 = .ok (.ireturn, 1) := by decide +kernel
theorem dL_areRules_163 : decode cL_areRules 163 = .ok (.aload_n 0, 1) := by decide +kernel
theorem dL_areRules_164 : decode cL_areRules 164 = .ok (.iload 8, 2) := by decide +kernel
theorem dL_areRules_166 : decode cL_areRules 166 = .ok (.iconst 2, 1) := by decide +kernel
theorem dL_areRules_167 : decode cL_areRules 167 = .ok (.invokevirtual 26, 3) := by decide +kernel
theorem dL_areRules_170 : decode cL_areRules 170 = .ok (.istore 5, 2) := by decide +kernel
theorem dL_areRules_172 : decode cL_areRules 172 = .ok (.iload 8, 2) := by decide +kernel
theorem dL_areRules_174 : decode cL_areRules 174 = .ok (.istore 6, 2) := by decide +kernel
theorem dL_areRules_176 : decode cL_areRules 176 = .ok (.iinc 7 1, 3) := by decide +kernel
theorem dL_areRules_179 : decode cL_areRules 179 = .ok (.goto (-117), 3) := by decide +kernel
theorem dL_areRules_182 : decode cL_areRules 182 = .ok (.iload_n 3, 1) := by decide +kernel
theorem dL_areRules_183 : decode cL_areRules 183 = .ok (.iload 7, 2) := by decide +kernel
theorem dL_areRules_185 : decode cL_areRules 185 = .ok (.iadd, 1) := by decide +kernel
theorem dL_areRules_186 : decode cL_areRules 186 = .ok (.istore_n 3, 1) := by decide +kernel
theorem dL_areRules_187 : decode cL_areRules 187 = .ok (.iinc 4 1, 3) := by decide +kernel
theorem dL_areRules_190 : decode cL_areRules 190 = .ok (.goto (-144), 3) := by decide +kernel
theorem dL_areRules_193 : decode cL_areRules 193 = .ok (.iload_n 3, 1) := by decide +kernel
theorem dL_areRules_194 : decode cL_areRules 194 = .ok (.iload_n 1, 1) := by decide +kernel
theorem dL_areRules_195 : decode cL_areRules 195 = .ok (.if_icmp .ne 28, 3) := by decide +kernel
theorem dL_areRules_198 : decode cL_areRules 198 = .ok (.aload_n 0, 1) := by decide +kernel
theorem dL_areRules_199 : decode cL_areRules 199 = .ok (.iconst 2, 1) := by decide +kernel
theorem dL_areRules_200 : decode cL_areRules 200 = .ok (.invokevirtual 14, 3) := by decide +kernel
theorem dL_areRules_203 : decode cL_areRules 203 = .ok (.iload_n 2, 1) := by decide +kernel
theorem dL_areRules_204 : decode cL_areRules 204 = .ok (.if_icmp .ne 19, 3) := by decide +kernel
theorem dL_areRules_207 : decode cL_areRules 207 = .ok (.aload_n 0, 1) := by decide +kernel
theorem dL_areRules_208 : decode cL_areRules 208 = .ok (.iload_n 1, 1) := by decide +kernel
theorem dL_areRules_209 : decode cL_areRules 209 = .ok (.iconst 0, 1) := by decide +kernel
theorem dL_areRules_210 : decode cL_areRules 210 = .ok (.invokevirtual 26, 3) := by decide +kernel
theorem dL_areRules_213 : decode cL_areRules 213 = .ok (.sipush (-1001), 3) := by decide +kernel
theorem dL_areRules_216 : decode cL_areRules 216 = .ok (.if_icmp .ne 7, 3) := by decide +kernel
theorem dL_areRules_219 : decode cL_areRules 219 = .ok (.iconst 1, 1) := by decide +kernel
theorem dL_areRules_220 : decode cL_areRules 220 = .ok (.goto 4, 3) := by decide +kernel
theorem dL_areRules_223 : decode cL_areRules 223 = .ok (.iconst 0, 1) := by decide +kernel
theorem dL_areRules_224 : decode cL_areRules 224 = .ok (.ireturn, 1) := by decide +kernel
theorem dL_isRecord_0 : decode cL_isRecord 0 = .ok (.aload_n 0, 1) := by decide +kernel
theorem dL_isRecord_1 : decode cL_isRecord 1 = .ok (.bipush 9, 2) := by decide +kernel
theorem dL_isRecord_3 : decode cL_isRecord 3 = .ok (.invokevirtual 14, 3) := by decide +kernel
theorem dL_isRecord_6 : decode cL_isRecord 6 = .ok (.istore_n 3, 1) := by decide +kernel
theorem dL_isRecord_7 : decode cL_isRecord 7 = .ok (.iconst 0, 1) := by decide +kernel
theorem dL_isRecord_8 : decode cL_isRecord 8 = .ok (.istore 4, 2) := by decide +kernel
theorem dL_isRecord_10 : decode cL_isRecord 10 = .ok (.iconst 0, 1) := by decide +kernel
theorem dL_isRecord_11 : decode cL_isRecord 11 = .ok (.istore 5, 2) := by decide +kernel
theorem dL_isRecord_13 : decode cL_isRecord 13 = .ok (.iload 5, 2) := by decide +kernel
theorem dL_isRecord_15 : decode cL_isRecord 15 = .ok (.iload_n 3, 1) := by decide +kernel
theorem dL_isRecord_16 : decode cL_isRecord 16 = .ok (.if_icmp .ge 109, 3) := by decide +kernel
theorem dL_isRecord_19 : decode cL_isRecord 19 = .ok (.iload 5, 2) := by decide +kernel
theorem dL_isRecord_21 : decode cL_isRecord 21 = .ok (.bipush 60, 2) := by decide +kernel
theorem dL_isRecord_23 : decode cL_isRecord 23 = .ok (.if_icmp .ge 102, 3) := by decide +kernel
theorem dL_isRecord_26 : decode cL_isRecord 26 = .ok (.aload_n 0, 1) := by decide +kernel
theorem dL_isRecord_27 : decode cL_isRecord 27 = .ok (.iload 5, 2) := by decide +kernel
theorem dL_isRecord_29 : decode cL_isRecord 29 = .ok (.iconst 1, 1) := by decide +kernel
theorem dL_isRecord_30 : decode cL_isRecord 30 = .ok (.invokevirtual 33, 3) := by decide +kernel
theorem dL_isRecord_33 : decode cL_isRecord 33 = .ok (.istore 6, 2) := by decide +kernel
theorem dL_isRecord_35 : decode cL_isRecord 35 = .ok (.aload_n 0, 1) := by decide +kernel
theorem dL_isRecord_36 : decode cL_isRecord 36 = .ok (.iload 5, 2) := by decide +kernel
theorem dL_isRecord_38 : decode cL_isRecord 38 = .ok (.iconst 0, 1) := by decide +kernel
theorem dL_isRecord_39 : decode cL_isRecord 39 = .ok (.invokevirtual 33, 3) := by decide +kernel
theorem dL_isRecord_42 : decode cL_isRecord 42 = .ok (.istore 7, 2) := by decide +kernel
theorem dL_isRecord_44 : decode cL_isRecord 44 = .ok (.aload_n 0, 1) := by decide +kernel
theorem dL_isRecord_45 : decode cL_isRecord 45 = .ok (.iload 5, 2) := by decide +kernel
theorem dL_isRecord_47 : decode cL_isRecord 47 = .ok (.iconst 2, 1) := by decide +kernel
theorem dL_isRecord_48 : decode cL_isRecord 48 = .ok (.invokevirtual 33, 3) := by decide +kernel
theorem dL_isRecord_51 : decode cL_isRecord 51 = .ok (.istore 8, 2) := by decide +kernel
theorem dL_isRecord_53 : decode cL_isRecord 53 = .ok (.iload 6, 2) := by decide +kernel
theorem dL_isRecord_55 : decode cL_isRecord 55 = .ok (.iconst 1, 1) := by decide +kernel
theorem dL_isRecord_56 : decode cL_isRecord 56 = .ok (.if_icmp .lt 57, 3) := by decide +kernel
theorem dL_isRecord_59 : decode cL_isRecord 59 = .ok (.iload 6, 2) := by decide +kernel
theorem dL_isRecord_61 : decode cL_isRecord 61 = .ok (.iload_n 2, 1) := by decide +kernel
theorem dL_isRecord_62 : decode cL_isRecord 62 = .ok (.if_icmp .gt 51, 3) := by decide +kernel
theorem dL_isRecord_65 : decode cL_isRecord 65 = .ok (.iload 6, 2) := by decide +kernel
theorem dL_isRecord_67 : decode cL_isRecord 67 = .ok (.iload 4, 2) := by decide +kernel
theorem dL_isRecord_69 : decode cL_isRecord 69 = .ok (.iconst 1, 1) := by decide +kernel
theorem dL_isRecord_70 : decode cL_isRecord 70 = .ok (.iadd, 1) := by decide +kernel
theorem dL_isRecord_71 : decode cL_isRecord 71 = .ok (.if_icmp .gt 42, 3) := by decide +kernel
theorem dL_isRecord_74 : decode cL_isRecord 74 = .ok (.iload 7, 2) := by decide +kernel
theorem dL_isRecord_76 : decode cL_isRecord 76 = .ok (.ifCond .lt 37, 3) := by decide +kernel
theorem dL_isRecord_79 : decode cL_isRecord 79 = .ok (.iload 7, 2) := by decide +kernel
theorem dL_isRecord_81 : decode cL_isRecord 81 = .ok (.aload_n 0, 1) := by decide +kernel
theorem dL_isRecord_82 : decode cL_isRecord 82 = .ok (.iconst 1, 1) := by decide +kernel
theorem dL_isRecord_83 : decode cL_isRecord 83 = .ok (.invokevirtual 14, 3) := by decide +kernel
theorem dL_isRecord_86 : decode cL_isRecord 86 = .ok (.if_icmp .ge 27, 3) := by decide +kernel
theorem dL_isRecord_89 : decode cL_isRecord 89 = .ok (.aload_n 0, 1) := by decide +kernel
theorem dL_isRecord_90 : decode cL_isRecord 90 = .ok (.iload 7, 2) := by decide +kernel
theorem dL_isRecord_92 : decode cL_isRecord 92 = .ok (.bipush 10, 2) := by decide +kernel
theorem dL_isRecord_94 : decode cL_isRecord 94 = .ok (.invokevirtual 26, 3) := by decide +kernel
theorem dL_isRecord_97 : decode cL_isRecord 97 = .ok (.iconst 1, 1) := by decide +kernel
theorem dL_isRecord_98 : decode cL_isRecord 98 = .ok (.if_icmp .ne 15, 3) := by decide +kernel
theorem dL_isRecord_101 : decode cL_isRecord 101 = .ok (.iload 8, 2) := by decide +kernel
theorem dL_isRecord_103 : decode cL_isRecord 103 = .ok (.ifCond .lt 10, 3) := by decide +kernel
theorem dL_isRecord_106 : decode cL_isRecord 106 = .ok (.iload 8, 2) := by decide +kernel
theorem dL_isRecord_108 : decode cL_isRecord 108 = .ok (.bipush 99, 2) := by decide +kernel
theorem dL_isRecord_110 : decode cL_isRecord 110 = .ok (.if_icmp .le 5, 3) := by decide +kernel
theorem dL_isRecord_113 : decode cL_isRecord 113 = .ok (.iconst 0, 1) := by decide +kernel
theorem dL_isRecord_114 : decode cL_isRecord 114 = .ok (.ireturn, 1) := by decide +kernel
theorem dL_isRecord_115 : decode cL_isRecord 115 = .ok (.iload 6, 2) := by decide +kernel
theorem dL_isRecord_117 : decode cL_isRecord 117 = .ok (.istore 4, 2) := by decide +kernel
theorem dL_isRecord_119 : decode cL_isRecord 119 = .ok (.iinc 5 1, 3) := by decide +kernel
theorem dL_isRecord_122 : decode cL_isRecord 122 = .ok (.goto (-109), 3) := by decide +kernel
theorem dL_isRecord_125 : decode cL_isRecord 125 = .ok (.iload_n 3, 1) := by decide +kernel
theorem dL_isRecord_126 : decode cL_isRecord 126 = .ok (.iload_n 1, 1) := by decide +kernel
theorem dL_isRecord_127 : decode cL_isRecord 127 = .ok (.bipush 60, 2) := by decide +kernel
theorem dL_isRecord_129 : decode cL_isRecord 129 = .ok (.if_icmp .ge 7, 3) := by decide +kernel
theorem dL_isRecord_132 : decode cL_isRecord 132 = .ok (.iload_n 1, 1) := by decide +kernel
theorem dL_isRecord_133 : decode cL_isRecord 133 = .ok (.goto 5, 3) := by decide +kernel
theorem dL_isRecord_136 : decode cL_isRecord 136 = .ok (.bipush 60, 2) := by decide +kernel
theorem dL_isRecord_138 : decode cL_isRecord 138 = .ok (.if_icmp .ne 31, 3) := by decide +kernel
theorem dL_isRecord_141 : decode cL_isRecord 141 = .ok (.aload_n 0, 1) := by decide +kernel
theorem dL_isRecord_142 : decode cL_isRecord 142 = .ok (.iload_n 3, 1) := by decide +kernel
theorem dL_isRecord_143 : decode cL_isRecord 143 = .ok (.iconst 0, 1) := by decide +kernel
theorem dL_isRecord_144 : decode cL_isRecord 144 = .ok (.invokevirtual 33, 3) := by decide +kernel
theorem dL_isRecord_147 : decode cL_isRecord 147 = .ok (.sipush (-1006), 3) := by decide +kernel
theorem dL_isRecord_150 : decode cL_isRecord 150 = .ok (.if_icmp .ne 19, 3) := by decide +kernel
theorem dL_isRecord_153 : decode cL_isRecord 153 = .ok (.aload_n 0, 1) := by decide +kernel
theorem dL_isRecord_154 : decode cL_isRecord 154 = .ok (.iconst 0, 1) := by decide +kernel
theorem dL_isRecord_155 : decode cL_isRecord 155 = .ok (.iconst 3, 1) := by decide +kernel
theorem dL_isRecord_156 : decode cL_isRecord 156 = .ok (.invokevirtual 33, 3) := by decide +kernel
theorem dL_isRecord_159 : decode cL_isRecord 159 = .ok (.sipush (-1002), 3) := by decide +kernel
theorem dL_isRecord_162 : decode cL_isRecord 162 = .ok (.if_icmp .ne 7, 3) := by decide +kernel
theorem dL_isRecord_165 : decode cL_isRecord 165 = .ok (.iconst 1, 1) := by decide +kernel
theorem dL_isRecord_166 : decode cL_isRecord 166 = .ok (.goto 4, 3) := by decide +kernel
theorem dL_isRecord_169 : decode cL_isRecord 169 = .ok (.iconst 0, 1) := by decide +kernel
theorem dL_isRecord_170 : decode cL_isRecord 170 = .ok (.ireturn, 1) := by decide +kernel
theorem dL_totals_0 : decode cL_totals 0 = .ok (.iconst 0, 1) := by decide +kernel
theorem dL_totals_1 : decode cL_totals 1 = .ok (.istore_n 2, 1) := by decide +kernel
theorem dL_totals_2 : decode cL_totals 2 = .ok (.iload_n 2, 1) := by decide +kernel
theorem dL_totals_3 : decode cL_totals 3 = .ok (.iconst 4, 1) := by decide +kernel
theorem dL_totals_4 : decode cL_totals 4 = .ok (.if_icmp .ge 21, 3) := by decide +kernel
theorem dL_totals_7 : decode cL_totals 7 = .ok (.aload_n 1, 1) := by decide +kernel
theorem dL_totals_8 : decode cL_totals 8 = .ok (.iconst 5, 1) := by decide +kernel
theorem dL_totals_9 : decode cL_totals 9 = .ok (.iload_n 2, 1) := by decide +kernel
theorem dL_totals_10 : decode cL_totals 10 = .ok (.iadd, 1) := by decide +kernel
theorem dL_totals_11 : decode cL_totals 11 = .ok (.aload_n 0, 1) := by decide +kernel
theorem dL_totals_12 : decode cL_totals 12 = .ok (.iconst 5, 1) := by decide +kernel
theorem dL_totals_13 : decode cL_totals 13 = .ok (.iload_n 2, 1) := by decide +kernel
theorem dL_totals_14 : decode cL_totals 14 = .ok (.iadd, 1) := by decide +kernel
theorem dL_totals_15 : decode cL_totals 15 = .ok (.invokevirtual 14, 3) := by decide +kernel
theorem dL_totals_18 : decode cL_totals 18 = .ok (.iastore, 1) := by decide +kernel
theorem dL_totals_19 : decode cL_totals 19 = .ok (.iinc 2 1, 3) := by decide +kernel
theorem dL_totals_22 : decode cL_totals 22 = .ok (.goto (-20), 3) := by decide +kernel
theorem dL_totals_25 : decode cL_totals 25 = .ok (.return_, 1) := by decide +kernel
theorem dL_isRefused_0 : decode cL_isRefused 0 = .ok (.aload_n 0, 1) := by decide +kernel
theorem dL_isRefused_1 : decode cL_isRefused 1 = .ok (.aload_n 1, 1) := by decide +kernel
theorem dL_isRefused_2 : decode cL_isRefused 2 = .ok (.iconst 1, 1) := by decide +kernel
theorem dL_isRefused_3 : decode cL_isRefused 3 = .ok (.iaload, 1) := by decide +kernel
theorem dL_isRefused_4 : decode cL_isRefused 4 = .ok (.iconst 3, 1) := by decide +kernel
theorem dL_isRefused_5 : decode cL_isRefused 5 = .ok (.invokevirtual 26, 3) := by decide +kernel
theorem dL_isRefused_8 : decode cL_isRefused 8 = .ok (.istore_n 2, 1) := by decide +kernel
theorem dL_isRefused_9 : decode cL_isRefused 9 = .ok (.aload_n 0, 1) := by decide +kernel
theorem dL_isRefused_10 : decode cL_isRefused 10 = .ok (.aload_n 1, 1) := by decide +kernel
theorem dL_isRefused_11 : decode cL_isRefused 11 = .ok (.iconst 1, 1) := by decide +kernel
theorem dL_isRefused_12 : decode cL_isRefused 12 = .ok (.iaload, 1) := by decide +kernel
theorem dL_isRefused_13 : decode cL_isRefused 13 = .ok (.bipush 10, 2) := by decide +kernel
theorem dL_isRefused_15 : decode cL_isRefused 15 = .ok (.invokevirtual 26, 3) := by decide +kernel
theorem dL_isRefused_18 : decode cL_isRefused 18 = .ok (.iconst 1, 1) := by decide +kernel
theorem dL_isRefused_19 : decode cL_isRefused 19 = .ok (.if_icmp .ne 13, 3) := by decide +kernel
theorem dL_isRefused_22 : decode cL_isRefused 22 = .ok (.aload_n 1, 1) := by decide +kernel
theorem dL_isRefused_23 : decode cL_isRefused 23 = .ok (.iconst 3, 1) := by decide +kernel
theorem dL_isRefused_24 : decode cL_isRefused 24 = .ok (.iaload, 1) := by decide +kernel
theorem dL_isRefused_25 : decode cL_isRefused 25 = .ok (.ifCond .le 7, 3) := by decide +kernel
theorem dL_isRefused_28 : decode cL_isRefused 28 = .ok (.iconst 1, 1) := by decide +kernel
theorem dL_isRefused_29 : decode cL_isRefused 29 = .ok (.goto 4, 3) := by decide +kernel
theorem dL_isRefused_32 : decode cL_isRefused 32 = .ok (.iconst 0, 1) := by decide +kernel
theorem dL_isRefused_33 : decode cL_isRefused 33 = .ok (.istore_n 3, 1) := by decide +kernel
theorem dL_isRefused_34 : decode cL_isRefused 34 = .ok (.iload_n 3, 1) := by decide +kernel
theorem dL_isRefused_35 : decode cL_isRefused 35 = .ok (.ifCond .eq 67, 3) := by decide +kernel
theorem dL_isRefused_38 : decode cL_isRefused 38 = .ok (.aload_n 1, 1) := by decide +kernel
theorem dL_isRefused_39 : decode cL_isRefused 39 = .ok (.iconst 0, 1) := by decide +kernel
theorem dL_isRefused_40 : decode cL_isRefused 40 = .ok (.iaload, 1) := by decide +kernel
theorem dL_isRefused_41 : decode cL_isRefused 41 = .ok (.iconst 1, 1) := by decide +kernel
theorem dL_isRefused_42 : decode cL_isRefused 42 = .ok (.if_icmp .ne 11, 3) := by decide +kernel
theorem dL_isRefused_45 : decode cL_isRefused 45 = .ok (.iload_n 2, 1) := by decide +kernel
theorem dL_isRefused_46 : decode cL_isRefused 46 = .ok (.iconst 1, 1) := by decide +kernel
theorem dL_isRefused_47 : decode cL_isRefused 47 = .ok (.if_icmp .ne 55, 3) := by decide +kernel
theorem dL_isRefused_50 : decode cL_isRefused 50 = .ok (.goto 8, 3) := by decide +kernel
theorem dL_isRefused_53 : decode cL_isRefused 53 = .ok (.iload_n 2, 1) := by decide +kernel
theorem dL_isRefused_54 : decode cL_isRefused 54 = .ok (.iconst 2, 1) := by decide +kernel
theorem dL_isRefused_55 : decode cL_isRefused 55 = .ok (.if_icmp .le 47, 3) := by decide +kernel
theorem dL_isRefused_58 : decode cL_isRefused 58 = .ok (.aload_n 1, 1) := by decide +kernel
theorem dL_isRefused_59 : decode cL_isRefused 59 = .ok (.iconst 0, 1) := by decide +kernel
theorem dL_isRefused_60 : decode cL_isRefused 60 = .ok (.iaload, 1) := by decide +kernel
theorem dL_isRefused_61 : decode cL_isRefused 61 = .ok (.iconst 2, 1) := by decide +kernel
theorem dL_isRefused_62 : decode cL_isRefused 62 = .ok (.if_icmp .ne 14, 3) := by decide +kernel
theorem dL_isRefused_65 : decode cL_isRefused 65 = .ok (.aload_n 1, 1) := by decide +kernel
theorem dL_isRefused_66 : decode cL_isRefused 66 = .ok (.iconst 4, 1) := by decide +kernel
theorem dL_isRefused_67 : decode cL_isRefused 67 = .ok (.iaload, 1) := by decide +kernel
theorem dL_isRefused_68 : decode cL_isRefused 68 = .ok (.aload_n 0, 1) := by decide +kernel
theorem dL_isRefused_69 : decode cL_isRefused 69 = .ok (.iconst 3, 1) := by decide +kernel
theorem dL_isRefused_70 : decode cL_isRefused 70 = .ok (.invokevirtual 14, 3) := by decide +kernel
theorem dL_isRefused_73 : decode cL_isRefused 73 = .ok (.if_icmp .ne 29, 3) := by decide +kernel
theorem dL_isRefused_76 : decode cL_isRefused 76 = .ok (.aload_n 1, 1) := by decide +kernel
theorem dL_isRefused_77 : decode cL_isRefused 77 = .ok (.iconst 0, 1) := by decide +kernel
theorem dL_isRefused_78 : decode cL_isRefused 78 = .ok (.iaload, 1) := by decide +kernel
theorem dL_isRefused_79 : decode cL_isRefused 79 = .ok (.iconst 3, 1) := by decide +kernel
theorem dL_isRefused_80 : decode cL_isRefused 80 = .ok (.if_icmp .ne 11, 3) := by decide +kernel
theorem dL_isRefused_83 : decode cL_isRefused 83 = .ok (.aload_n 1, 1) := by decide +kernel
theorem dL_isRefused_84 : decode cL_isRefused 84 = .ok (.iconst 2, 1) := by decide +kernel
theorem dL_isRefused_85 : decode cL_isRefused 85 = .ok (.iaload, 1) := by decide +kernel
theorem dL_isRefused_86 : decode cL_isRefused 86 = .ok (.bipush 100, 2) := by decide +kernel
theorem dL_isRefused_88 : decode cL_isRefused 88 = .ok (.if_icmp .ne 14, 3) := by decide +kernel
theorem dL_isRefused_91 : decode cL_isRefused 91 = .ok (.aload_n 1, 1) := by decide +kernel
theorem dL_isRefused_92 : decode cL_isRefused 92 = .ok (.iconst 0, 1) := by decide +kernel
theorem dL_isRefused_93 : decode cL_isRefused 93 = .ok (.iaload, 1) := by decide +kernel
theorem dL_isRefused_94 : decode cL_isRefused 94 = .ok (.iconst 4, 1) := by decide +kernel
theorem dL_isRefused_95 : decode cL_isRefused 95 = .ok (.if_icmp .ge 7, 3) := by decide +kernel
theorem dL_isRefused_98 : decode cL_isRefused 98 = .ok (.iconst 1, 1) := by decide +kernel
theorem dL_isRefused_99 : decode cL_isRefused 99 = .ok (.goto 4, 3) := by decide +kernel
theorem dL_isRefused_102 : decode cL_isRefused 102 = .ok (.iconst 0, 1) := by decide +kernel
theorem dL_isRefused_103 : decode cL_isRefused 103 = .ok (.ireturn, 1) := by decide +kernel
theorem dL_came_0 : decode cL_came 0 = .ok (.aload_n 1, 1) := by decide +kernel
theorem dL_came_1 : decode cL_came 1 = .ok (.iconst 2, 1) := by decide +kernel
theorem dL_came_2 : decode cL_came 2 = .ok (.iaload, 1) := by decide +kernel
theorem dL_came_3 : decode cL_came 3 = .ok (.ifCond .le 38, 3) := by decide +kernel
theorem dL_came_6 : decode cL_came 6 = .ok (.aload_n 1, 1) := by decide +kernel
theorem dL_came_7 : decode cL_came 7 = .ok (.iconst 2, 1) := by decide +kernel
theorem dL_came_8 : decode cL_came 8 = .ok (.iaload, 1) := by decide +kernel
theorem dL_came_9 : decode cL_came 9 = .ok (.bipush 100, 2) := by decide +kernel
theorem dL_came_11 : decode cL_came 11 = .ok (.if_icmp .gt 30, 3) := by decide +kernel
