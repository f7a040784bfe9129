theorem dX8_rowOf_27 : decode cX8_rowOf 27 = .ok (.ifnull 13, 3) := by decide +kernel
theorem dX8_rowOf_30 : decode cX8_rowOf 30 = .ok (.aload_n 3, 1) := by decide +kernel
theorem dX8_rowOf_31 : decode cX8_rowOf 31 = .ok (.getfield 22, 3) := by decide +kernel
theorem dX8_rowOf_34 : decode cX8_rowOf 34 = .ok (.iload_n 1, 1) := by decide +kernel
theorem dX8_rowOf_35 : decode cX8_rowOf 35 = .ok (.if_icmp .ne 5, 3) := by decide +kernel
theorem dX8_rowOf_38 : decode cX8_rowOf 38 = .ok (.aload_n 3, 1) := by decide +kernel
theorem dX8_rowOf_39 : decode cX8_rowOf 39 = .ok (.areturn, 1) := by decide +kernel
theorem dX8_rowOf_40 : decode cX8_rowOf 40 = .ok (.iinc 2 1, 3) := by decide +kernel
theorem dX8_rowOf_43 : decode cX8_rowOf 43 = .ok (.goto (-41), 3) := by decide +kernel
theorem dX8_rowOf_46 : decode cX8_rowOf 46 = .ok (.aconst_null, 1) := by decide +kernel
theorem dX8_rowOf_47 : decode cX8_rowOf 47 = .ok (.areturn, 1) := by decide +kernel
theorem dX8_take_0 : decode cX8_take 0 = .ok (.aload_n 0, 1) := by decide +kernel
theorem dX8_take_1 : decode cX8_take 1 = .ok (.getfield 18, 3) := by decide +kernel
theorem dX8_take_4 : decode cX8_take 4 = .ok (.ifCond .lt 15, 3) := by decide +kernel
theorem dX8_take_7 : decode cX8_take 7 = .ok (.aload_n 0, 1) := by decide +kernel
theorem dX8_take_8 : decode cX8_take 8 = .ok (.getfield 18, 3) := by decide +kernel
theorem dX8_take_11 : decode cX8_take 11 = .ok (.aload_n 0, 1) := by decide +kernel
theorem dX8_take_12 : decode cX8_take 12 = .ok (.getfield 11, 3) := by decide +kernel
theorem dX8_take_15 : decode cX8_take 15 = .ok (.arraylength, 1) := by decide +kernel
theorem dX8_take_16 : decode cX8_take 16 = .ok (.if_icmp .lt 4, 3) := by decide +kernel
theorem dX8_take_19 : decode cX8_take 19 = .ok (.return_, 1) := by decide +kernel
theorem dX8_take_20 : decode cX8_take 20 = .ok (.aload_n 0, 1) := by decide +kernel
theorem dX8_take_21 : decode cX8_take 21 = .ok (.getfield 11, 3) := by decide +kernel
theorem dX8_take_24 : decode cX8_take 24 = .ok (.aload_n 0, 1) := by decide +kernel
theorem dX8_take_25 : decode cX8_take 25 = .ok (.getfield 18, 3) := by decide +kernel
theorem dX8_take_28 : decode cX8_take 28 = .ok (.aaload, 1) := by decide +kernel
theorem dX8_take_29 : decode cX8_take 29 = .ok (.astore_n 2, 1) := by decide +kernel
theorem dX8_take_30 : decode cX8_take 30 = .ok (.aload_n 2, 1) := by decide +kernel
theorem dX8_take_31 : decode cX8_take 31 = .ok (.ifnonnull 4, 3) := by decide +kernel
theorem dX8_take_34 : decode cX8_take 34 = .ok (.return_, 1) := by decide +kernel
theorem dX8_take_35 : decode cX8_take 35 = .ok (.aload_n 2, 1) := by decide +kernel
theorem dX8_take_36 : decode cX8_take 36 = .ok (.aload_n 1, 1) := by decide +kernel
theorem dX8_take_37 : decode cX8_take 37 = .ok (.invokevirtual 25, 3) := by decide +kernel
theorem dX8_take_40 : decode cX8_take 40 = .ok (.aload_n 0, 1) := by decide +kernel
theorem dX8_take_41 : decode cX8_take 41 = .ok (.getfield 18, 3) := by decide +kernel
theorem dX8_take_44 : decode cX8_take 44 = .ok (.istore_n 3, 1) := by decide +kernel
theorem dX8_take_45 : decode cX8_take 45 = .ok (.iload_n 3, 1) := by decide +kernel
theorem dX8_take_46 : decode cX8_take 46 = .ok (.ifCond .le 47, 3) := by decide +kernel
theorem dX8_take_49 : decode cX8_take 49 = .ok (.aload_n 0, 1) := by decide +kernel
theorem dX8_take_50 : decode cX8_take 50 = .ok (.getfield 11, 3) := by decide +kernel
theorem dX8_take_53 : decode cX8_take 53 = .ok (.iload_n 3, 1) := by decide +kernel
theorem dX8_take_54 : decode cX8_take 54 = .ok (.iconst 1, 1) := by decide +kernel
theorem dX8_take_55 : decode cX8_take 55 = .ok (.isub, 1) := by decide +kernel
theorem dX8_take_56 : decode cX8_take 56 = .ok (.aaload, 1) := by decide +kernel
theorem dX8_take_57 : decode cX8_take 57 = .ok (.astore 4, 2) := by decide +kernel
theorem dX8_take_59 : decode cX8_take 59 = .ok (.aload 4, 2) := by decide +kernel
theorem dX8_take_61 : decode cX8_take 61 = .ok (.ifnull 32, 3) := by decide +kernel
theorem dX8_take_64 : decode cX8_take 64 = .ok (.aload 4, 2) := by decide +kernel
theorem dX8_take_66 : decode cX8_take 66 = .ok (.getfield 22, 3) := by decide +kernel
theorem dX8_take_69 : decode cX8_take 69 = .ok (.aload_n 1, 1) := by decide +kernel
theorem dX8_take_70 : decode cX8_take 70 = .ok (.getfield 22, 3) := by decide +kernel
theorem dX8_take_73 : decode cX8_take 73 = .ok (.if_icmp .ge 6, 3) := by decide +kernel
theorem dX8_take_76 : decode cX8_take 76 = .ok (.goto 17, 3) := by decide +kernel
theorem dX8_take_79 : decode cX8_take 79 = .ok (.aload_n 0, 1) := by decide +kernel
theorem dX8_take_80 : decode cX8_take 80 = .ok (.getfield 11, 3) := by decide +kernel
theorem dX8_take_83 : decode cX8_take 83 = .ok (.iload_n 3, 1) := by decide +kernel
theorem dX8_take_84 : decode cX8_take 84 = .ok (.aload 4, 2) := by decide +kernel
theorem dX8_take_86 : decode cX8_take 86 = .ok (.aastore, 1) := by decide +kernel
theorem dX8_take_87 : decode cX8_take 87 = .ok (.iinc 3 (-1), 3) := by decide +kernel
theorem dX8_take_90 : decode cX8_take 90 = .ok (.goto (-45), 3) := by decide +kernel
theorem dX8_take_93 : decode cX8_take 93 = .ok (.aload_n 0, 1) := by decide +kernel
theorem dX8_take_94 : decode cX8_take 94 = .ok (.getfield 11, 3) := by decide +kernel
theorem dX8_take_97 : decode cX8_take 97 = .ok (.iload_n 3, 1) := by decide +kernel
theorem dX8_take_98 : decode cX8_take 98 = .ok (.aload_n 2, 1) := by decide +kernel
theorem dX8_take_99 : decode cX8_take 99 = .ok (.aastore, 1) := by decide +kernel
theorem dX8_take_100 : decode cX8_take 100 = .ok (.aload_n 0, 1) := by decide +kernel
theorem dX8_take_101 : decode cX8_take 101 = .ok (.dup, 1) := by decide +kernel
theorem dX8_take_102 : decode cX8_take 102 = .ok (.getfield 18, 3) := by decide +kernel
theorem dX8_take_105 : decode cX8_take 105 = .ok (.iconst 1, 1) := by decide +kernel
theorem dX8_take_106 : decode cX8_take 106 = .ok (.iadd, 1) := by decide +kernel
theorem dX8_take_107 : decode cX8_take 107 = .ok (.putfield 18, 3) := by decide +kernel
theorem dX8_take_110 : decode cX8_take 110 = .ok (.return_, 1) := by decide +kernel
theorem dX8_drop_0 : decode cX8_drop 0 = .ok (.aconst_null, 1) := by decide +kernel
theorem dX8_drop_1 : decode cX8_drop 1 = .ok (.astore_n 2, 1) := by decide +kernel
theorem dX8_drop_2 : decode cX8_drop 2 = .ok (.iconst 0, 1) := by decide +kernel
theorem dX8_drop_3 : decode cX8_drop 3 = .ok (.istore_n 3, 1) := by decide +kernel
theorem dX8_drop_4 : decode cX8_drop 4 = .ok (.iload_n 3, 1) := by decide +kernel
theorem dX8_drop_5 : decode cX8_drop 5 = .ok (.aload_n 0, 1) := by decide +kernel
theorem dX8_drop_6 : decode cX8_drop 6 = .ok (.getfield 18, 3) := by decide +kernel
theorem dX8_drop_9 : decode cX8_drop 9 = .ok (.if_icmp .ge 90, 3) := by decide +kernel
theorem dX8_drop_12 : decode cX8_drop 12 = .ok (.iload_n 3, 1) := by decide +kernel
theorem dX8_drop_13 : decode cX8_drop 13 = .ok (.aload_n 0, 1) := by decide +kernel
theorem dX8_drop_14 : decode cX8_drop 14 = .ok (.getfield 11, 3) := by decide +kernel
theorem dX8_drop_17 : decode cX8_drop 17 = .ok (.arraylength, 1) := by decide +kernel
theorem dX8_drop_18 : decode cX8_drop 18 = .ok (.if_icmp .ge 81, 3) := by decide +kernel
theorem dX8_drop_21 : decode cX8_drop 21 = .ok (.aload_n 0, 1) := by decide +kernel
theorem dX8_drop_22 : decode cX8_drop 22 = .ok (.getfield 11, 3) := by decide +kernel
theorem dX8_drop_25 : decode cX8_drop 25 = .ok (.iload_n 3, 1) := by decide +kernel
theorem dX8_drop_26 : decode cX8_drop 26 = .ok (.aaload, 1) := by decide +kernel
theorem dX8_drop_27 : decode cX8_drop 27 = .ok (.astore 4, 2) := by decide +kernel
theorem dX8_drop_29 : decode cX8_drop 29 = .ok (.aload_n 2, 1) := by decide +kernel
theorem dX8_drop_30 : decode cX8_drop 30 = .ok (.ifnonnull 20, 3) := by decide +kernel
theorem dX8_drop_33 : decode cX8_drop 33 = .ok (.aload 4, 2) := by decide +kernel
theorem dX8_drop_35 : decode cX8_drop 35 = .ok (.ifnull 15, 3) := by decide +kernel
theorem dX8_drop_38 : decode cX8_drop 38 = .ok (.aload 4, 2) := by decide +kernel
theorem dX8_drop_40 : decode cX8_drop 40 = .ok (.getfield 22, 3) := by decide +kernel
theorem dX8_drop_43 : decode cX8_drop 43 = .ok (.iload_n 1, 1) := by decide +kernel
theorem dX8_drop_44 : decode cX8_drop 44 = .ok (.if_icmp .ne 6, 3) := by decide +kernel
theorem dX8_drop_47 : decode cX8_drop 47 = .ok (.aload 4, 2) := by decide +kernel
theorem dX8_drop_49 : decode cX8_drop 49 = .ok (.astore_n 2, 1) := by decide +kernel
theorem dX8_drop_50 : decode cX8_drop 50 = .ok (.aload_n 2, 1) := by decide +kernel
theorem dX8_drop_51 : decode cX8_drop 51 = .ok (.ifnull 42, 3) := by decide +kernel
theorem dX8_drop_54 : decode cX8_drop 54 = .ok (.aload_n 0, 1) := by decide +kernel
theorem dX8_drop_55 : decode cX8_drop 55 = .ok (.getfield 11, 3) := by decide +kernel
theorem dX8_drop_58 : decode cX8_drop 58 = .ok (.iload_n 3, 1) := by decide +kernel
theorem dX8_drop_59 : decode cX8_drop 59 = .ok (.iload_n 3, 1) := by decide +kernel
theorem dX8_drop_60 : decode cX8_drop 60 = .ok (.iconst 1, 1) := by decide +kernel
theorem dX8_drop_61 : decode cX8_drop 61 = .ok (.iadd, 1) := by decide +kernel
theorem dX8_drop_62 : decode cX8_drop 62 = .ok (.aload_n 0, 1) := by decide +kernel
theorem dX8_drop_63 : decode cX8_drop 63 = .ok (.getfield 18, 3) := by decide +kernel
theorem dX8_drop_66 : decode cX8_drop 66 = .ok (.if_icmp .ge 25, 3) := by decide +kernel
theorem dX8_drop_69 : decode cX8_drop 69 = .ok (.iload_n 3, 1) := by decide +kernel
theorem dX8_drop_70 : decode cX8_drop 70 = .ok (.iconst 1, 1) := by decide +kernel
theorem dX8_drop_71 : decode cX8_drop 71 = .ok (.iadd, 1) := by decide +kernel
theorem dX8_drop_72 : decode cX8_drop 72 = .ok (.aload_n 0, 1) := by decide +kernel
theorem dX8_drop_73 : decode cX8_drop 73 = .ok (.getfield 11, 3) := by decide +kernel
theorem dX8_drop_76 : decode cX8_drop 76 = .ok (.arraylength, 1) := by decide +kernel
theorem dX8_drop_77 : decode cX8_drop 77 = .ok (.if_icmp .ge 14, 3) := by decide +kernel
theorem dX8_drop_80 : decode cX8_drop 80 = .ok (.aload_n 0, 1) := by decide +kernel
theorem dX8_drop_81 : decode cX8_drop 81 = .ok (.getfield 11, 3) := by decide +kernel
theorem dX8_drop_84 : decode cX8_drop 84 = .ok (.iload_n 3, 1) := by decide +kernel
theorem dX8_drop_85 : decode cX8_drop 85 = .ok (.iconst 1, 1) := by decide +kernel
theorem dX8_drop_86 : decode cX8_drop 86 = .ok (.iadd, 1) := by decide +kernel
theorem dX8_drop_87 : decode cX8_drop 87 = .ok (.aaload, 1) := by decide +kernel
theorem dX8_drop_88 : decode cX8_drop 88 = .ok (.goto 4, 3) := by decide +kernel
theorem dX8_drop_91 : decode cX8_drop 91 = .ok (.aload_n 2, 1) := by decide +kernel
theorem dX8_drop_92 : decode cX8_drop 92 = .ok (.aastore, 1) := by decide +kernel
theorem dX8_drop_93 : decode cX8_drop 93 = .ok (.iinc 3 1, 3) := by decide +kernel
theorem dX8_drop_96 : decode cX8_drop 96 = .ok (.goto (-92), 3) := by decide +kernel
theorem dX8_drop_99 : decode cX8_drop 99 = .ok (.aload_n 2, 1) := by decide +kernel
theorem dX8_drop_100 : decode cX8_drop 100 = .ok (.ifnull 13, 3) := by decide +kernel
theorem dX8_drop_103 : decode cX8_drop 103 = .ok (.aload_n 0, 1) := by decide +kernel
theorem dX8_drop_104 : decode cX8_drop 104 = .ok (.dup, 1) := by decide +kernel
theorem dX8_drop_105 : decode cX8_drop 105 = .ok (.getfield 18, 3) := by decide +kernel
theorem dX8_drop_108 : decode cX8_drop 108 = .ok (.iconst 1, 1) := by decide +kernel
theorem dX8_drop_109 : decode cX8_drop 109 = .ok (.isub, 1) := by decide +kernel
theorem dX8_drop_110 : decode cX8_drop 110 = .ok (.putfield 18, 3) := by decide +kernel
theorem dX8_drop_113 : decode cX8_drop 113 = .ok (.return_, 1) := by decide +kernel
theorem dX8_copyFrom_0 : decode cX8_copyFrom 0 = .ok (.aload_n 0, 1) := by decide +kernel
theorem dX8_copyFrom_1 : decode cX8_copyFrom 1 = .ok (.aload_n 1, 1) := by decide +kernel
theorem dX8_copyFrom_2 : decode cX8_copyFrom 2 = .ok (.getfield 18, 3) := by decide +kernel
theorem dX8_copyFrom_5 : decode cX8_copyFrom 5 = .ok (.putfield 18, 3) := by decide +kernel
theorem dX8_copyFrom_8 : decode cX8_copyFrom 8 = .ok (.iconst 0, 1) := by decide +kernel
theorem dX8_copyFrom_9 : decode cX8_copyFrom 9 = .ok (.istore_n 2, 1) := by decide +kernel
theorem dX8_copyFrom_10 : decode cX8_copyFrom 10 = .ok (.iload_n 2, 1) := by decide +kernel
theorem dX8_copyFrom_11 : decode cX8_copyFrom 11 = .ok (.aload_n 0, 1) := by decide +kernel
theorem dX8_copyFrom_12 : decode cX8_copyFrom 12 = .ok (.getfield 18, 3) := by decide +kernel
theorem dX8_copyFrom_15 : decode cX8_copyFrom 15 = .ok (.if_icmp .ge 47, 3) := by decide +kernel
theorem dX8_copyFrom_18 : decode cX8_copyFrom 18 = .ok (.iload_n 2, 1) := by decide +kernel
theorem dX8_copyFrom_19 : decode cX8_copyFrom 19 = .ok (.aload_n 0, 1) := by decide +kernel
theorem dX8_copyFrom_20 : decode cX8_copyFrom 20 = .ok (.getfield 11, 3) := by decide +kernel
theorem dX8_copyFrom_23 : decode cX8_copyFrom 23 = .ok (.arraylength, 1) := by decide +kernel
theorem dX8_copyFrom_24 : decode cX8_copyFrom 24 = .ok (.if_icmp .ge 38, 3) := by decide +kernel
theorem dX8_copyFrom_27 : decode cX8_copyFrom 27 = .ok (.aload_n 0, 1) := by decide +kernel
theorem dX8_copyFrom_28 : decode cX8_copyFrom 28 = .ok (.getfield 11, 3) := by decide +kernel
theorem dX8_copyFrom_31 : decode cX8_copyFrom 31 = .ok (.iload_n 2, 1) := by decide +kernel
theorem dX8_copyFrom_32 : decode cX8_copyFrom 32 = .ok (.aaload, 1) := by decide +kernel
theorem dX8_copyFrom_33 : decode cX8_copyFrom 33 = .ok (.astore_n 3, 1) := by decide +kernel
theorem dX8_copyFrom_34 : decode cX8_copyFrom 34 = .ok (.aload_n 1, 1) := by decide +kernel
theorem dX8_copyFrom_35 : decode cX8_copyFrom 35 = .ok (.iload_n 2, 1) := by decide +kernel
theorem dX8_copyFrom_36 : decode cX8_copyFrom 36 = .ok (.invokevirtual 29, 3) := by decide +kernel
theorem dX8_copyFrom_39 : decode cX8_copyFrom 39 = .ok (.astore 4, 2) := by decide +kernel
theorem dX8_copyFrom_41 : decode cX8_copyFrom 41 = .ok (.aload_n 3, 1) := by decide +kernel
theorem dX8_copyFrom_42 : decode cX8_copyFrom 42 = .ok (.ifnull 14, 3) := by decide +kernel
theorem dX8_copyFrom_45 : decode cX8_copyFrom 45 = .ok (.aload 4, 2) := by decide +kernel
theorem dX8_copyFrom_47 : decode cX8_copyFrom 47 = .ok (.ifnull 9, 3) := by decide +kernel
theorem dX8_copyFrom_50 : decode cX8_copyFrom 50 = .ok (.aload_n 3, 1) := by decide +kernel
theorem dX8_copyFrom_51 : decode cX8_copyFrom 51 = .ok (.aload 4, 2) := by decide +kernel
theorem dX8_copyFrom_53 : decode cX8_copyFrom 53 = .ok (.invokevirtual 25, 3) := by decide +kernel
theorem dX8_copyFrom_56 : decode cX8_copyFrom 56 = .ok (.iinc 2 1, 3) := by decide +kernel
theorem dX8_copyFrom_59 : decode cX8_copyFrom 59 = .ok (.goto (-49), 3) := by decide +kernel
theorem dX8_copyFrom_62 : decode cX8_copyFrom 62 = .ok (.return_, 1) := by decide +kernel
theorem dX9_init_0 : decode cX9_init 0 = .ok (.aload_n 0, 1) := by decide +kernel
theorem dX9_init_1 : decode cX9_init 1 = .ok (.invokespecial 3, 3) := by decide +kernel
theorem dX9_init_4 : decode cX9_init 4 = .ok (.aload_n 0, 1) := by decide +kernel
theorem dX9_init_5 : decode cX9_init 5 = .ok (.bipush 80, 2) := by decide +kernel
theorem dX9_init_7 : decode cX9_init 7 = .ok (.newarray .char, 2) := by decide +kernel
theorem dX9_init_9 : decode cX9_init 9 = .ok (.putfield 9, 3) := by decide +kernel
theorem dX9_init_12 : decode cX9_init 12 = .ok (.return_, 1) := by decide +kernel
theorem dX9_append_0 : decode cX9_append 0 = .ok (.aload_n 0, 1) := by decide +kernel
theorem dX9_append_1 : decode cX9_append 1 = .ok (.getfield 15, 3) := by decide +kernel
theorem dX9_append_4 : decode cX9_append 4 = .ok (.ifCond .lt 15, 3) := by decide +kernel
theorem dX9_append_7 : decode cX9_append 7 = .ok (.aload_n 0, 1) := by decide +kernel
theorem dX9_append_8 : decode cX9_append 8 = .ok (.getfield 15, 3) := by decide +kernel
theorem dX9_append_11 : decode cX9_append 11 = .ok (.aload_n 0, 1) := by decide +kernel
theorem dX9_append_12 : decode cX9_append 12 = .ok (.getfield 9, 3) := by decide +kernel
theorem dX9_append_15 : decode cX9_append 15 = .ok (.arraylength, 1) := by decide +kernel
theorem dX9_append_16 : decode cX9_append 16 = .ok (.if_icmp .lt 5, 3) := by decide +kernel
theorem dX9_append_19 : decode cX9_append 19 = .ok (.iconst 0, 1) := by decide +kernel
theorem dX9_append_20 : decode cX9_append 20 = .ok (.ireturn, 1) := by decide +kernel
theorem dX9_append_21 : decode cX9_append 21 = .ok (.aload_n 0, 1) := by decide +kernel
theorem dX9_append_22 : decode cX9_append 22 = .ok (.getfield 9, 3) := by decide +kernel
theorem dX9_append_25 : decode cX9_append 25 = .ok (.aload_n 0, 1) := by decide +kernel
theorem dX9_append_26 : decode cX9_append 26 = .ok (.getfield 15, 3) := by decide +kernel
theorem dX9_append_29 : decode cX9_append 29 = .ok (.iload_n 1, 1) := by decide +kernel
theorem dX9_append_30 : decode cX9_append 30 = .ok (.castore, 1) := by decide +kernel
theorem dX9_append_31 : decode cX9_append 31 = .ok (.aload_n 0, 1) := by decide +kernel
theorem dX9_append_32 : decode cX9_append 32 = .ok (.dup, 1) := by decide +kernel
theorem dX9_append_33 : decode cX9_append 33 = .ok (.getfield 15, 3) := by decide +kernel
theorem dX9_append_36 : decode cX9_append 36 = .ok (.iconst 1, 1) := by decide +kernel
theorem dX9_append_37 : decode cX9_append 37 = .ok (.iadd, 1) := by decide +kernel
theorem dX9_append_38 : decode cX9_append 38 = .ok (.putfield 15, 3) := by decide +kernel
theorem dX9_append_41 : decode cX9_append 41 = .ok (.iconst 1, 1) := by decide +kernel
theorem dX9_append_42 : decode cX9_append 42 = .ok (.ireturn, 1) := by decide +kernel
theorem dX9_rewind_0 : decode cX9_rewind 0 = .ok (.aload_n 0, 1) := by decide +kernel
theorem dX9_rewind_1 : decode cX9_rewind 1 = .ok (.iconst 0, 1) := by decide +kernel
theorem dX9_rewind_2 : decode cX9_rewind 2 = .ok (.putfield 19, 3) := by decide +kernel
theorem dX9_rewind_5 : decode cX9_rewind 5 = .ok (.aload_n 0, 1) := by decide +kernel
theorem dX9_rewind_6 : decode cX9_rewind 6 = .ok (.iconst 0, 1) := by decide +kernel
theorem dX9_rewind_7 : decode cX9_rewind 7 = .ok (.putfield 22, 3) := by decide +kernel
theorem dX9_rewind_10 : decode cX9_rewind 10 = .ok (.return_, 1) := by decide +kernel
theorem dX9_countStatements_0 : decode cX9_countStatements 0 = .ok (.aload_n 0, 1) := by decide +kernel
theorem dX9_countStatements_1 : decode cX9_countStatements 1 = .ok (.invokevirtual 26, 3) := by decide +kernel
theorem dX9_countStatements_4 : decode cX9_countStatements 4 = .ok (.iconst 0, 1) := by decide +kernel
theorem dX9_countStatements_5 : decode cX9_countStatements 5 = .ok (.istore_n 1, 1) := by decide +kernel
theorem dX9_countStatements_6 : decode cX9_countStatements 6 = .ok (.aload_n 0, 1) := by decide +kernel
theorem dX9_countStatements_7 : decode cX9_countStatements 7 = .ok (.invokevirtual 29, 3) := by decide +kernel
theorem dX9_countStatements_10 : decode cX9_countStatements 10 = .ok (.iinc 1 1, 3) := by decide +kernel
theorem dX9_countStatements_13 : decode cX9_countStatements 13 = .ok (.aload_n 0, 1) := by decide +kernel
theorem dX9_countStatements_14 : decode cX9_countStatements 14 = .ok (.getfield 22, 3) := by decide +kernel
theorem dX9_countStatements_17 : decode cX9_countStatements 17 = .ok (.ifCond .ne 20, 3) := by decide +kernel
theorem dX9_countStatements_20 : decode cX9_countStatements 20 = .ok (.aload_n 0, 1) := by decide +kernel
theorem dX9_countStatements_21 : decode cX9_countStatements 21 = .ok (.getfield 19, 3) := by decide +kernel
theorem dX9_countStatements_24 : decode cX9_countStatements 24 = .ok (.aload_n 0, 1) := by decide +kernel
theorem dX9_countStatements_25 : decode cX9_countStatements 25 = .ok (.getfield 15, 3) := by decide +kernel
theorem dX9_countStatements_28 : decode cX9_countStatements 28 = .ok (.if_icmp .ge 9, 3) := by decide +kernel
theorem dX9_countStatements_31 : decode cX9_countStatements 31 = .ok (.iload_n 1, 1) := by decide +kernel
theorem dX9_countStatements_32 : decode cX9_countStatements 32 = .ok (.bipush 80, 2) := by decide +kernel
theorem dX9_countStatements_34 : decode cX9_countStatements 34 = .ok (.if_icmp .lt (-28), 3) := by decide +kernel
theorem dX9_countStatements_37 : decode cX9_countStatements 37 = .ok (.aload_n 0, 1) := by decide +kernel
theorem dX9_countStatements_38 : decode cX9_countStatements 38 = .ok (.getfield 22, 3) := by decide +kernel
theorem dX9_countStatements_41 : decode cX9_countStatements 41 = .ok (.ifCond .eq 14, 3) := by decide +kernel
theorem dX9_countStatements_44 : decode cX9_countStatements 44 = .ok (.sipush (-2000), 3) := by decide +kernel
theorem dX9_countStatements_47 : decode cX9_countStatements 47 = .ok (.aload_n 0, 1) := by decide +kernel
theorem dX9_countStatements_48 : decode cX9_countStatements 48 = .ok (.getfield 19, 3) := by decide +kernel
theorem dX9_countStatements_51 : decode cX9_countStatements 51 = .ok (.isub, 1) := by decide +kernel
theorem dX9_countStatements_52 : decode cX9_countStatements 52 = .ok (.goto 4, 3) := by decide +kernel
theorem dX9_countStatements_55 : decode cX9_countStatements 55 = .ok (.iload_n 1, 1) := by decide +kernel
theorem dX9_countStatements_56 : decode cX9_countStatements 56 = .ok (.ireturn, 1) := by decide +kernel
theorem dX9_readStatement_0 : decode cX9_readStatement 0 = .ok (.aload_n 0, 1) := by decide +kernel
theorem dX9_readStatement_1 : decode cX9_readStatement 1 = .ok (.getfield 19, 3) := by decide +kernel
theorem dX9_readStatement_4 : decode cX9_readStatement 4 = .ok (.ifCond .le 9, 3) := by decide +kernel
theorem dX9_readStatement_7 : decode cX9_readStatement 7 = .ok (.aload_n 0, 1) := by decide +kernel
theorem dX9_readStatement_8 : decode cX9_readStatement 8 = .ok (.bipush 59, 2) := by decide +kernel
theorem dX9_readStatement_10 : decode cX9_readStatement 10 = .ok (.invokevirtual 32, 3) := by decide +kernel
theorem dX9_readStatement_13 : decode cX9_readStatement 13 = .ok (.aload_n 0, 1) := by decide +kernel
theorem dX9_readStatement_14 : decode cX9_readStatement 14 = .ok (.invokevirtual 36, 3) := by decide +kernel
theorem dX9_readStatement_17 : decode cX9_readStatement 17 = .ok (.lookupswitch 72 #[(100, 49), (105, 35), (117, 42)], 35) := by decide +kernel
theorem dX9_readStatement_52 : decode cX9_readStatement 52 = .ok (.aload_n 0, 1) := by decide +kernel
theorem dX9_readStatement_53 : decode cX9_readStatement 53 = .ok (.invokevirtual 40, 3) := by decide +kernel
theorem dX9_readStatement_56 : decode cX9_readStatement 56 = .ok (.goto 38, 3) := by decide +kernel
theorem dX9_readStatement_59 : decode cX9_readStatement 59 = .ok (.aload_n 0, 1) := by decide +kernel
theorem dX9_readStatement_60 : decode cX9_readStatement 60 = .ok (.invokevirtual 43, 3) := by decide +kernel
theorem dX9_readStatement_63 : decode cX9_readStatement 63 = .ok (.goto 31, 3) := by decide +kernel
theorem dX9_readStatement_66 : decode cX9_readStatement 66 = .ok (.aload_n 0, 1) := by decide +kernel
theorem dX9_readStatement_67 : decode cX9_readStatement 67 = .ok (.iconst 2, 1) := by decide +kernel
theorem dX9_readStatement_68 : decode cX9_readStatement 68 = .ok (.putfield 46, 3) := by decide +kernel
theorem dX9_readStatement_71 : decode cX9_readStatement 71 = .ok (.aload_n 0, 1) := by decide +kernel
theorem dX9_readStatement_72 : decode cX9_readStatement 72 = .ok (.bipush 100, 2) := by decide +kernel
theorem dX9_readStatement_74 : decode cX9_readStatement 74 = .ok (.invokevirtual 32, 3) := by decide +kernel
theorem dX9_readStatement_77 : decode cX9_readStatement 77 = .ok (.aload_n 0, 1) := by decide +kernel
theorem dX9_readStatement_78 : decode cX9_readStatement 78 = .ok (.aload_n 0, 1) := by decide +kernel
theorem dX9_readStatement_79 : decode cX9_readStatement 79 = .ok (.iconst 2, 1) := by decide +kernel
theorem dX9_readStatement_80 : decode cX9_readStatement 80 = .ok (.invokevirtual 49, 3) := by decide +kernel
theorem dX9_readStatement_83 : decode cX9_readStatement 83 = .ok (.putfield 53, 3) := by decide +kernel
theorem dX9_readStatement_86 : decode cX9_readStatement 86 = .ok (.goto 8, 3) := by decide +kernel
theorem dX9_readStatement_89 : decode cX9_readStatement 89 = .ok (.aload_n 0, 1) := by decide +kernel
theorem dX9_readStatement_90 : decode cX9_readStatement 90 = .ok (.iconst 1, 1) := by decide +kernel
theorem dX9_readStatement_91 : decode cX9_readStatement 91 = .ok (.putfield 22, 3) := by decide +kernel
theorem dX9_readStatement_94 : decode cX9_readStatement 94 = .ok (.return_, 1) := by decide +kernel
theorem dX9_readInsert_0 : decode cX9_readInsert 0 = .ok (.aload_n 0, 1) := by decide +kernel
theorem dX9_readInsert_1 : decode cX9_readInsert 1 = .ok (.iconst 0, 1) := by decide +kernel
theorem dX9_readInsert_2 : decode cX9_readInsert 2 = .ok (.putfield 46, 3) := by decide +kernel
theorem dX9_readInsert_5 : decode cX9_readInsert 5 = .ok (.aload_n 0, 1) := by decide +kernel
theorem dX9_readInsert_6 : decode cX9_readInsert 6 = .ok (.bipush 105, 2) := by decide +kernel
theorem dX9_readInsert_8 : decode cX9_readInsert 8 = .ok (.invokevirtual 32, 3) := by decide +kernel
theorem dX9_readInsert_11 : decode cX9_readInsert 11 = .ok (.aload_n 0, 1) := by decide +kernel
theorem dX9_readInsert_12 : decode cX9_readInsert 12 = .ok (.aload_n 0, 1) := by decide +kernel
theorem dX9_readInsert_13 : decode cX9_readInsert 13 = .ok (.iconst 2, 1) := by decide +kernel
theorem dX9_readInsert_14 : decode cX9_readInsert 14 = .ok (.invokevirtual 49, 3) := by decide +kernel
theorem dX9_readInsert_17 : decode cX9_readInsert 17 = .ok (.putfield 53, 3) := by decide +kernel
theorem dX9_readInsert_20 : decode cX9_readInsert 20 = .ok (.aload_n 0, 1) := by decide +kernel
theorem dX9_readInsert_21 : decode cX9_readInsert 21 = .ok (.bipush 61, 2) := by decide +kernel
theorem dX9_readInsert_23 : decode cX9_readInsert 23 = .ok (.invokevirtual 32, 3) := by decide +kernel
theorem dX9_readInsert_26 : decode cX9_readInsert 26 = .ok (.aload_n 0, 1) := by decide +kernel
theorem dX9_readInsert_27 : decode cX9_readInsert 27 = .ok (.aload_n 0, 1) := by decide +kernel
theorem dX9_readInsert_28 : decode cX9_readInsert 28 = .ok (.invokevirtual 56, 3) := by decide +kernel
theorem dX9_readInsert_31 : decode cX9_readInsert 31 = .ok (.putfield 59, 3) := by decide +kernel
theorem dX9_readInsert_34 : decode cX9_readInsert 34 = .ok (.aload_n 0, 1) := by decide +kernel
theorem dX9_readInsert_35 : decode cX9_readInsert 35 = .ok (.bipush 44, 2) := by decide +kernel
theorem dX9_readInsert_37 : decode cX9_readInsert 37 = .ok (.invokevirtual 32, 3) := by decide +kernel
theorem dX9_readInsert_40 : decode cX9_readInsert 40 = .ok (.aload_n 0, 1) := by decide +kernel
theorem dX9_readInsert_41 : decode cX9_readInsert 41 = .ok (.aload_n 0, 1) := by decide +kernel
theorem dX9_readInsert_42 : decode cX9_readInsert 42 = .ok (.invokevirtual 56, 3) := by decide +kernel
theorem dX9_readInsert_45 : decode cX9_readInsert 45 = .ok (.putfield 62, 3) := by decide +kernel
theorem dX9_readInsert_48 : decode cX9_readInsert 48 = .ok (.aload_n 0, 1) := by decide +kernel
theorem dX9_readInsert_49 : decode cX9_readInsert 49 = .ok (.bipush 44, 2) := by decide +kernel
theorem dX9_readInsert_51 : decode cX9_readInsert 51 = .ok (.invokevirtual 32, 3) := by decide +kernel
theorem dX9_readInsert_54 : decode cX9_readInsert 54 = .ok (.aload_n 0, 1) := by decide +kernel
theorem dX9_readInsert_55 : decode cX9_readInsert 55 = .ok (.aload_n 0, 1) := by decide +kernel
theorem dX9_readInsert_56 : decode cX9_readInsert 56 = .ok (.invokevirtual 56, 3) := by decide +kernel
theorem dX9_readInsert_59 : decode cX9_readInsert 59 = .ok (.putfield 65, 3) := by decide +kernel
theorem dX9_readInsert_62 : decode cX9_readInsert 62 = .ok (.return_, 1) := by decide +kernel
theorem dX9_readUpdate_0 : decode cX9_readUpdate 0 = .ok (.aload_n 0, 1) := by decide +kernel
theorem dX9_readUpdate_1 : decode cX9_readUpdate 1 = .ok (.iconst 1, 1) := by decide +kernel
theorem dX9_readUpdate_2 : decode cX9_readUpdate 2 = .ok (.putfield 46, 3) := by decide +kernel
theorem dX9_readUpdate_5 : decode cX9_readUpdate 5 = .ok (.aload_n 0, 1) := by decide +kernel
theorem dX9_readUpdate_6 : decode cX9_readUpdate 6 = .ok (.bipush 117, 2) := by decide +kernel
theorem dX9_readUpdate_8 : decode cX9_readUpdate 8 = .ok (.invokevirtual 32, 3) := by decide +kernel
theorem dX9_readUpdate_11 : decode cX9_readUpdate 11 = .ok (.aload_n 0, 1) := by decide +kernel
theorem dX9_readUpdate_12 : decode cX9_readUpdate 12 = .ok (.aload_n 0, 1) := by decide +kernel
theorem dX9_readUpdate_13 : decode cX9_readUpdate 13 = .ok (.iconst 2, 1) := by decide +kernel
theorem dX9_readUpdate_14 : decode cX9_readUpdate 14 = .ok (.invokevirtual 49, 3) := by decide +kernel
theorem dX9_readUpdate_17 : decode cX9_readUpdate 17 = .ok (.putfield 53, 3) := by decide +kernel
theorem dX9_readUpdate_20 : decode cX9_readUpdate 20 = .ok (.aload_n 0, 1) := by decide +kernel
theorem dX9_readUpdate_21 : decode cX9_readUpdate 21 = .ok (.bipush 46, 2) := by decide +kernel
theorem dX9_readUpdate_23 : decode cX9_readUpdate 23 = .ok (.invokevirtual 32, 3) := by decide +kernel
theorem dX9_readUpdate_26 : decode cX9_readUpdate 26 = .ok (.aload_n 0, 1) := by decide +kernel
theorem dX9_readUpdate_27 : decode cX9_readUpdate 27 = .ok (.aload_n 0, 1) := by decide +kernel
theorem dX9_readUpdate_28 : decode cX9_readUpdate 28 = .ok (.iconst 2, 1) := by decide +kernel
theorem dX9_readUpdate_29 : decode cX9_readUpdate 29 = .ok (.invokevirtual 68, 3) := by decide +kernel
theorem dX9_readUpdate_32 : decode cX9_readUpdate 32 = .ok (.putfield 71, 3) := by decide +kernel
theorem dX9_readUpdate_35 : decode cX9_readUpdate 35 = .ok (.aload_n 0, 1) := by decide +kernel
theorem dX9_readUpdate_36 : decode cX9_readUpdate 36 = .ok (.bipush 61, 2) := by decide +kernel
theorem dX9_readUpdate_38 : decode cX9_readUpdate 38 = .ok (.invokevirtual 32, 3) := by decide +kernel
theorem dX9_readUpdate_41 : decode cX9_readUpdate 41 = .ok (.aload_n 0, 1) := by decide +kernel
theorem dX9_readUpdate_42 : decode cX9_readUpdate 42 = .ok (.aload_n 0, 1) := by decide +kernel
theorem dX9_readUpdate_43 : decode cX9_readUpdate 43 = .ok (.invokevirtual 56, 3) := by decide +kernel
theorem dX9_readUpdate_46 : decode cX9_readUpdate 46 = .ok (.putfield 59, 3) := by decide +kernel
theorem dX9_readUpdate_49 : decode cX9_readUpdate 49 = .ok (.return_, 1) := by decide +kernel
theorem dX9_readValue_0 : decode cX9_readValue 0 = .ok (.aload_n 0, 1) := by decide +kernel
theorem dX9_readValue_1 : decode cX9_readValue 1 = .ok (.invokevirtual 36, 3) := by decide +kernel
theorem dX9_readValue_4 : decode cX9_readValue 4 = .ok (.bipush 45, 2) := by decide +kernel
theorem dX9_readValue_6 : decode cX9_readValue 6 = .ok (.if_icmp .ne 20, 3) := by decide +kernel
theorem dX9_readValue_9 : decode cX9_readValue 9 = .ok (.aload_n 0, 1) := by decide +kernel
theorem dX9_readValue_10 : decode cX9_readValue 10 = .ok (.dup, 1) := by decide +kernel
theorem dX9_readValue_11 : decode cX9_readValue 11 = .ok (.getfield 19, 3) := by decide +kernel
theorem dX9_readValue_14 : decode cX9_readValue 14 = .ok (.iconst 1, 1) := by decide +kernel
theorem dX9_readValue_15 : decode cX9_readValue 15 = .ok (.iadd, 1) := by decide +kernel
theorem dX9_readValue_16 : decode cX9_readValue 16 = .ok (.putfield 19, 3) := by decide +kernel
theorem dX9_readValue_19 : decode cX9_readValue 19 = .ok (.aload_n 0, 1) := by decide +kernel
theorem dX9_readValue_20 : decode cX9_readValue 20 = .ok (.iconst 3, 1) := by decide +kernel
theorem dX9_readValue_21 : decode cX9_readValue 21 = .ok (.invokevirtual 49, 3) := by decide +kernel
theorem dX9_readValue_24 : decode cX9_readValue 24 = .ok (.ineg, 1) := by decide +kernel
theorem dX9_readValue_25 : decode cX9_readValue 25 = .ok (.ireturn, 1) := by decide +kernel
theorem dX9_readValue_26 : decode cX9_readValue 26 = .ok (.aload_n 0, 1) := by decide +kernel
theorem dX9_readValue_27 : decode cX9_readValue 27 = .ok (.iconst 3, 1) := by decide +kernel
theorem dX9_readValue_28 : decode cX9_readValue 28 = .ok (.invokevirtual 49, 3) := by decide +kernel
theorem dX9_readValue_31 : decode cX9_readValue 31 = .ok (.ireturn, 1) := by decide +kernel
theorem dX9_readNumber_0 : decode cX9_readNumber 0 = .ok (.aload_n 0, 1) := by decide +kernel
theorem dX9_readNumber_1 : decode cX9_readNumber 1 = .ok (.bipush 9, 2) := by decide +kernel
theorem dX9_readNumber_3 : decode cX9_readNumber 3 = .ok (.invokevirtual 68, 3) := by decide +kernel
theorem dX9_readNumber_6 : decode cX9_readNumber 6 = .ok (.istore_n 2, 1) := by decide +kernel
theorem dX9_readNumber_7 : decode cX9_readNumber 7 = .ok (.iconst 1, 1) := by decide +kernel
theorem dX9_readNumber_8 : decode cX9_readNumber 8 = .ok (.istore_n 3, 1) := by decide +kernel
theorem dX9_readNumber_9 : decode cX9_readNumber 9 = .ok (.iload_n 3, 1) := by decide +kernel
theorem dX9_readNumber_10 : decode cX9_readNumber 10 = .ok (.iload_n 1, 1) := by decide +kernel
theorem dX9_readNumber_11 : decode cX9_readNumber 11 = .ok (.if_icmp .ge 37, 3) := by decide +kernel
theorem dX9_readNumber_14 : decode cX9_readNumber 14 = .ok (.iload_n 2, 1) := by decide +kernel
theorem dX9_readNumber_15 : decode cX9_readNumber 15 = .ok (.ifCond .le 33, 3) := by decide +kernel
theorem dX9_readNumber_18 : decode cX9_readNumber 18 = .ok (.aload_n 0, 1) := by decide +kernel
theorem dX9_readNumber_19 : decode cX9_readNumber 19 = .ok (.invokevirtual 36, 3) := by decide +kernel
theorem dX9_readNumber_22 : decode cX9_readNumber 22 = .ok (.bipush 9, 2) := by decide +kernel
theorem dX9_readNumber_24 : decode cX9_readNumber 24 = .ok (.invokestatic 74, 3) := by decide +kernel
theorem dX9_readNumber_27 : decode cX9_readNumber 27 = .ok (.ifCond .eq 21, 3) := by decide +kernel
theorem dX9_readNumber_30 : decode cX9_readNumber 30 = .ok (.iload_n 2, 1) := by decide +kernel
theorem dX9_readNumber_31 : decode cX9_readNumber 31 = .ok (.bipush 10, 2) := by decide +kernel
theorem dX9_readNumber_33 : decode cX9_readNumber 33 = .ok (.imul, 1) := by decide +kernel
theorem dX9_readNumber_34 : decode cX9_readNumber 34 = .ok (.aload_n 0, 1) := by decide +kernel
theorem dX9_readNumber_35 : decode cX9_readNumber 35 = .ok (.bipush 9, 2) := by decide +kernel
theorem dX9_readNumber_37 : decode cX9_readNumber 37 = .ok (.invokevirtual 68, 3) := by decide +kernel
theorem dX9_readNumber_40 : decode cX9_readNumber 40 = .ok (.iadd, 1) := by decide +kernel
theorem dX9_readNumber_41 : decode cX9_readNumber 41 = .ok (.istore_n 2, 1) := by decide +kernel
theorem dX9_readNumber_42 : decode cX9_readNumber 42 = .ok (.iinc 3 1, 3) := by decide +kernel
theorem dX9_readNumber_45 : decode cX9_readNumber 45 = .ok (.goto (-36), 3) := by decide +kernel
theorem dX9_readNumber_48 : decode cX9_readNumber 48 = .ok (.iload_n 2, 1) := by decide +kernel
theorem dX9_readNumber_49 : decode cX9_readNumber 49 = .ok (.ireturn, 1) := by decide +kernel
theorem dX9_readDigit_0 : decode cX9_readDigit 0 = .ok (.aload_n 0, 1) := by decide +kernel
theorem dX9_readDigit_1 : decode cX9_readDigit 1 = .ok (.invokevirtual 36, 3) := by decide +kernel
theorem dX9_readDigit_4 : decode cX9_readDigit 4 = .ok (.istore_n 2, 1) := by decide +kernel
theorem dX9_readDigit_5 : decode cX9_readDigit 5 = .ok (.iload_n 2, 1) := by decide +kernel
theorem dX9_readDigit_6 : decode cX9_readDigit 6 = .ok (.iload_n 1, 1) := by decide +kernel
theorem dX9_readDigit_7 : decode cX9_readDigit 7 = .ok (.invokestatic 74, 3) := by decide +kernel
theorem dX9_readDigit_10 : decode cX9_readDigit 10 = .ok (.ifCond .ne 10, 3) := by decide +kernel
theorem dX9_readDigit_13 : decode cX9_readDigit 13 = .ok (.aload_n 0, 1) := by decide +kernel
theorem dX9_readDigit_14 : decode cX9_readDigit 14 = .ok (.iconst 1, 1) := by decide +kernel
theorem dX9_readDigit_15 : decode cX9_readDigit 15 = .ok (.putfield 22, 3) := by decide +kernel
theorem dX9_readDigit_18 : decode cX9_readDigit 18 = .ok (.iconst 0, 1) := by decide +kernel
theorem dX9_readDigit_19 : decode cX9_readDigit 19 = .ok (.ireturn, 1) := by decide +kernel
theorem dX9_readDigit_20 : decode cX9_readDigit 20 = .ok (.aload_n 0, 1) := by decide +kernel
theorem dX9_readDigit_21 : decode cX9_readDigit 21 = .ok (.dup, 1) := by decide +kernel
theorem dX9_readDigit_22 : decode cX9_readDigit 22 = .ok (.getfield 19, 3) := by decide +kernel
theorem dX9_readDigit_25 : decode cX9_readDigit 25 = .ok (.iconst 1, 1) := by decide +kernel
theorem dX9_readDigit_26 : decode cX9_readDigit 26 = .ok (.iadd, 1) := by decide +kernel
theorem dX9_readDigit_27 : decode cX9_readDigit 27 = .ok (.putfield 19, 3) := by decide +kernel
theorem dX9_readDigit_30 : decode cX9_readDigit 30 = .ok (.iload_n 2, 1) := by decide +kernel
theorem dX9_readDigit_31 : decode cX9_readDigit 31 = .ok (.bipush 48, 2) := by decide +kernel
theorem dX9_readDigit_33 : decode cX9_readDigit 33 = .ok (.isub, 1) := by decide +kernel
theorem dX9_readDigit_34 : decode cX9_readDigit 34 = .ok (.ireturn, 1) := by decide +kernel
theorem dX9_isDigit_0 : decode cX9_isDigit 0 = .ok (.iload_n 0, 1) := by decide +kernel
theorem dX9_isDigit_1 : decode cX9_isDigit 1 = .ok (.bipush 48, 2) := by decide +kernel
theorem dX9_isDigit_3 : decode cX9_isDigit 3 = .ok (.if_icmp .lt 15, 3) := by decide +kernel
theorem dX9_isDigit_6 : decode cX9_isDigit 6 = .ok (.iload_n 0, 1) := by decide +kernel
theorem dX9_isDigit_7 : decode cX9_isDigit 7 = .ok (.bipush 48, 2) := by decide +kernel
theorem dX9_isDigit_9 : decode cX9_isDigit 9 = .ok (.iload_n 1, 1) := by decide +kernel
theorem dX9_isDigit_10 : decode cX9_isDigit 10 = .ok (.iadd, 1) := by decide +kernel
theorem dX9_isDigit_11 : decode cX9_isDigit 11 = .ok (.if_icmp .gt 7, 3) := by decide +kernel
theorem dX9_isDigit_14 : decode cX9_isDigit 14 = .ok (.iconst 1, 1) := by decide +kernel
theorem dX9_isDigit_15 : decode cX9_isDigit 15 = .ok (.goto 4, 3) := by decide +kernel
theorem dX9_isDigit_18 : decode cX9_isDigit 18 = .ok (.iconst 0, 1) := by decide +kernel
theorem dX9_isDigit_19 : decode cX9_isDigit 19 = .ok (.ireturn, 1) := by decide +kernel
theorem dX9_pass_0 : decode cX9_pass 0 = .ok (.aload_n 0, 1) := by decide +kernel
theorem dX9_pass_1 : decode cX9_pass 1 = .ok (.invokevirtual 36, 3) := by decide +kernel
theorem dX9_pass_4 : decode cX9_pass 4 = .ok (.iload_n 1, 1) := by decide +kernel
theorem dX9_pass_5 : decode cX9_pass 5 = .ok (.if_icmp .ne 16, 3) := by decide +kernel
theorem dX9_pass_8 : decode cX9_pass 8 = .ok (.aload_n 0, 1) := by decide +kernel
theorem dX9_pass_9 : decode cX9_pass 9 = .ok (.dup, 1) := by decide +kernel
theorem dX9_pass_10 : decode cX9_pass 10 = .ok (.getfield 19, 3) := by decide +kernel
theorem dX9_pass_13 : decode cX9_pass 13 = .ok (.iconst 1, 1) := by decide +kernel
theorem dX9_pass_14 : decode cX9_pass 14 = .ok (.iadd, 1) := by decide +kernel
theorem dX9_pass_15 : decode cX9_pass 15 = .ok (.putfield 19, 3) := by decide +kernel
theorem dX9_pass_18 : decode cX9_pass 18 = .ok (.goto 8, 3) := by decide +kernel
theorem dX9_pass_21 : decode cX9_pass 21 = .ok (.aload_n 0, 1) := by decide +kernel
theorem dX9_pass_22 : decode cX9_pass 22 = .ok (.iconst 1, 1) := by decide +kernel
theorem dX9_pass_23 : decode cX9_pass 23 = .ok (.putfield 22, 3) := by decide +kernel
theorem dX9_pass_26 : decode cX9_pass 26 = .ok (.return_, 1) := by decide +kernel
theorem dX9_here_0 : decode cX9_here 0 = .ok (.aload_n 0, 1) := by decide +kernel
theorem dX9_here_1 : decode cX9_here 1 = .ok (.getfield 22, 3) := by decide +kernel
theorem dX9_here_4 : decode cX9_here 4 = .ok (.ifCond .ne 33, 3) := by decide +kernel
theorem dX9_here_7 : decode cX9_here 7 = .ok (.aload_n 0, 1) := by decide +kernel
theorem dX9_here_8 : decode cX9_here 8 = .ok (.getfield 19, 3) := by decide +kernel
theorem dX9_here_11 : decode cX9_here 11 = .ok (.ifCond .lt 26, 3) := by decide +kernel
theorem dX9_here_14 : decode cX9_here 14 = .ok (.aload_n 0, 1) := by decide +kernel
theorem dX9_here_15 : decode cX9_here 15 = .ok (.getfield 19, 3) := by decide +kernel
theorem dX9_here_18 : decode cX9_here 18 = .ok (.aload_n 0, 1) := by decide +kernel
theorem dX9_here_19 : decode cX9_here 19 = .ok (.getfield 15, 3) := by decide +kernel
theorem dX9_here_22 : decode cX9_here 22 = .ok (.if_icmp .ge 15, 3) := by decide +kernel
theorem dX9_here_25 : decode cX9_here 25 = .ok (.aload_n 0, 1) := by decide +kernel
theorem dX9_here_26 : decode cX9_here 26 = .ok (.getfield 19, 3) := by decide +kernel
theorem dX9_here_29 : decode cX9_here 29 = .ok (.aload_n 0, 1) := by decide +kernel
theorem dX9_here_30 : decode cX9_here 30 = .ok (.getfield 9, 3) := by decide +kernel
theorem dX9_here_33 : decode cX9_here 33 = .ok (.arraylength, 1) := by decide +kernel
theorem dX9_here_34 : decode cX9_here 34 = .ok (.if_icmp .lt 5, 3) := by decide +kernel
theorem dX9_here_37 : decode cX9_here 37 = .ok (.iconst (-1), 1) := by decide +kernel
theorem dX9_here_38 : decode cX9_here 38 = .ok (.ireturn, 1) := by decide +kernel
theorem dX9_here_39 : decode cX9_here 39 = .ok (.aload_n 0, 1) := by decide +kernel
theorem dX9_here_40 : decode cX9_here 40 = .ok (.getfield 9, 3) := by decide +kernel
theorem dX9_here_43 : decode cX9_here 43 = .ok (.aload_n 0, 1) := by decide +kernel
theorem dX9_here_44 : decode cX9_here 44 = .ok (.getfield 19, 3) := by decide +kernel
theorem dX9_here_47 : decode cX9_here 47 = .ok (.caload, 1) := by decide +kernel
theorem dX9_here_48 : decode cX9_here 48 = .ok (.ireturn, 1) := by decide +kernel
theorem dX10_init_0 : decode cX10_init 0 = .ok (.aload_n 0, 1) := by decide +kernel
theorem dX10_init_1 : decode cX10_init 1 = .ok (.invokespecial 1, 3) := by decide +kernel
theorem dX10_init_4 : decode cX10_init 4 = .ok (.aload_n 0, 1) := by decide +kernel
theorem dX10_init_5 : decode cX10_init 5 = .ok (.new 7, 3) := by decide +kernel
theorem dX10_init_8 : decode cX10_init 8 = .ok (.dup, 1) := by decide +kernel
theorem dX10_init_9 : decode cX10_init 9 = .ok (.invokespecial 9, 3) := by decide +kernel
theorem dX10_init_12 : decode cX10_init 12 = .ok (.putfield 10, 3) := by decide +kernel
theorem dX10_init_15 : decode cX10_init 15 = .ok (.aload_n 0, 1) := by decide +kernel
theorem dX10_init_16 : decode cX10_init 16 = .ok (.new 16, 3) := by decide +kernel
theorem dX10_init_19 : decode cX10_init 19 = .ok (.dup, 1) := by decide +kernel
theorem dX10_init_20 : decode cX10_init 20 = .ok (.invokespecial 18, 3) := by decide +kernel
theorem dX10_init_23 : decode cX10_init 23 = .ok (.putfield 19, 3) := by decide +kernel
theorem dX10_init_26 : decode cX10_init 26 = .ok (.aload_n 0, 1) := by decide +kernel
theorem dX10_init_27 : decode cX10_init 27 = .ok (.new 16, 3) := by decide +kernel
theorem dX10_init_30 : decode cX10_init 30 = .ok (.dup, 1) := by decide +kernel
theorem dX10_init_31 : decode cX10_init 31 = .ok (.invokespecial 18, 3) := by decide +kernel
theorem dX10_init_34 : decode cX10_init 34 = .ok (.putfield 23, 3) := by decide +kernel
theorem dX10_init_37 : decode cX10_init 37 = .ok (.aload_n 0, 1) := by decide +kernel
theorem dX10_init_38 : decode cX10_init 38 = .ok (.new 26, 3) := by decide +kernel
theorem dX10_init_41 : decode cX10_init 41 = .ok (.dup, 1) := by decide +kernel
theorem dX10_init_42 : decode cX10_init 42 = .ok (.invokespecial 28, 3) := by decide +kernel
theorem dX10_init_45 : decode cX10_init 45 = .ok (.putfield 29, 3) := by decide +kernel
theorem dX10_init_48 : decode cX10_init 48 = .ok (.aload_n 0, 1) := by decide +kernel
theorem dX10_init_49 : decode cX10_init 49 = .ok (.new 33, 3) := by decide +kernel
theorem dX10_init_52 : decode cX10_init 52 = .ok (.dup, 1) := by decide +kernel
theorem dX10_init_53 : decode cX10_init 53 = .ok (.invokespecial 35, 3) := by decide +kernel
theorem dX10_init_56 : decode cX10_init 56 = .ok (.putfield 36, 3) := by decide +kernel
theorem dX10_init_59 : decode cX10_init 59 = .ok (.return_, 1) := by decide +kernel
theorem dX10_addRule_0 : decode cX10_addRule 0 = .ok (.iload_n 1, 1) := by decide +kernel
theorem dX10_addRule_1 : decode cX10_addRule 1 = .ok (.invokestatic 40, 3) := by decide +kernel
theorem dX10_addRule_4 : decode cX10_addRule 4 = .ok (.ifCond .eq 57, 3) := by decide +kernel
theorem dX10_addRule_7 : decode cX10_addRule 7 = .ok (.iload_n 2, 1) := by decide +kernel
theorem dX10_addRule_8 : decode cX10_addRule 8 = .ok (.invokestatic 44, 3) := by decide +kernel
theorem dX10_addRule_11 : decode cX10_addRule 11 = .ok (.ifCond .eq 50, 3) := by decide +kernel
theorem dX10_addRule_14 : decode cX10_addRule 14 = .ok (.iload_n 3, 1) := by decide +kernel
theorem dX10_addRule_15 : decode cX10_addRule 15 = .ok (.iconst 0, 1) := by decide +kernel
theorem dX10_addRule_16 : decode cX10_addRule 16 = .ok (.bipush 99, 2) := by decide +kernel
theorem dX10_addRule_18 : decode cX10_addRule 18 = .ok (.invokestatic 47, 3) := by decide +kernel
theorem dX10_addRule_21 : decode cX10_addRule 21 = .ok (.ifCond .eq 40, 3) := by decide +kernel
theorem dX10_addRule_24 : decode cX10_addRule 24 = .ok (.iload_n 2, 1) := by decide +kernel
theorem dX10_addRule_25 : decode cX10_addRule 25 = .ok (.iload 4, 2) := by decide +kernel
theorem dX10_addRule_27 : decode cX10_addRule 27 = .ok (.invokestatic 51, 3) := by decide +kernel
theorem dX10_addRule_30 : decode cX10_addRule 30 = .ok (.ifCond .eq 31, 3) := by decide +kernel
theorem dX10_addRule_33 : decode cX10_addRule 33 = .ok (.iload 5, 2) := by decide +kernel
theorem dX10_addRule_35 : decode cX10_addRule 35 = .ok (.iconst 0, 1) := by decide +kernel
theorem dX10_addRule_36 : decode cX10_addRule 36 = .ok (.iconst 2, 1) := by decide +kernel
theorem dX10_addRule_37 : decode cX10_addRule 37 = .ok (.invokestatic 47, 3) := by decide +kernel
theorem dX10_addRule_40 : decode cX10_addRule 40 = .ok (.ifCond .eq 21, 3) := by decide +kernel
theorem dX10_addRule_43 : decode cX10_addRule 43 = .ok (.iload 6, 2) := by decide +kernel
theorem dX10_addRule_45 : decode cX10_addRule 45 = .ok (.iconst 0, 1) := by decide +kernel
theorem dX10_addRule_46 : decode cX10_addRule 46 = .ok (.iconst 3, 1) := by decide +kernel
theorem dX10_addRule_47 : decode cX10_addRule 47 = .ok (.invokestatic 47, 3) := by decide +kernel
theorem dX10_addRule_50 : decode cX10_addRule 50 = .ok (.ifCond .eq 11, 3) := by decide +kernel
theorem dX10_addRule_53 : decode cX10_addRule 53 = .ok (.iload 7, 2) := by decide +kernel
theorem dX10_addRule_55 : decode cX10_addRule 55 = .ok (.invokestatic 55, 3) := by decide +kernel
theorem dX10_addRule_58 : decode cX10_addRule 58 = .ok (.ifCond .ne 7, 3) := by decide +kernel
theorem dX10_addRule_61 : decode cX10_addRule 61 = .ok (.sipush (-1002), 3) := by decide +kernel
theorem dX10_addRule_64 : decode cX10_addRule 64 = .ok (.ireturn, 1) := by decide +kernel
theorem dX10_addRule_65 : decode cX10_addRule 65 = .ok (.aload_n 0, 1) := by decide +kernel
theorem dX10_addRule_66 : decode cX10_addRule 66 = .ok (.getfield 10, 3) := by decide +kernel
theorem dX10_addRule_69 : decode cX10_addRule 69 = .ok (.getfield 58, 3) := by decide +kernel
theorem dX10_addRule_72 : decode cX10_addRule 72 = .ok (.getfield 61, 3) := by decide +kernel
theorem dX10_addRule_75 : decode cX10_addRule 75 = .ok (.astore 8, 2) := by decide +kernel
theorem dX10_addRule_77 : decode cX10_addRule 77 = .ok (.aload 8, 2) := by decide +kernel
theorem dX10_addRule_79 : decode cX10_addRule 79 = .ok (.invokevirtual 65, 3) := by decide +kernel
theorem dX10_addRule_82 : decode cX10_addRule 82 = .ok (.astore 9, 2) := by decide +kernel
theorem dX10_addRule_84 : decode cX10_addRule 84 = .ok (.aload 9, 2) := by decide +kernel
theorem dX10_addRule_86 : decode cX10_addRule 86 = .ok (.ifnonnull 7, 3) := by decide +kernel
theorem dX10_addRule_89 : decode cX10_addRule 89 = .ok (.sipush (-1003), 3) := by decide +kernel
theorem dX10_addRule_92 : decode cX10_addRule 92 = .ok (.ireturn, 1) := by decide +kernel
theorem dX10_addRule_93 : decode cX10_addRule 93 = .ok (.aload_n 0, 1) := by decide +kernel
theorem dX10_addRule_94 : decode cX10_addRule 94 = .ok (.getfield 29, 3) := by decide +kernel
theorem dX10_addRule_97 : decode cX10_addRule 97 = .ok (.aload_n 0, 1) := by decide +kernel
theorem dX10_addRule_98 : decode cX10_addRule 98 = .ok (.getfield 10, 3) := by decide +kernel
theorem dX10_addRule_101 : decode cX10_addRule 101 = .ok (.getfield 58, 3) := by decide +kernel
theorem dX10_addRule_104 : decode cX10_addRule 104 = .ok (.invokevirtual 71, 3) := by decide +kernel
theorem dX10_addRule_107 : decode cX10_addRule 107 = .ok (.aload 9, 2) := by decide +kernel
theorem dX10_addRule_109 : decode cX10_addRule 109 = .ok (.iload_n 1, 1) := by decide +kernel
theorem dX10_addRule_110 : decode cX10_addRule 110 = .ok (.iload_n 2, 1) := by decide +kernel
theorem dX10_addRule_111 : decode cX10_addRule 111 = .ok (.iload_n 3, 1) := by decide +kernel
theorem dX10_addRule_112 : decode cX10_addRule 112 = .ok (.iload 4, 2) := by decide +kernel
theorem dX10_addRule_114 : decode cX10_addRule 114 = .ok (.iload 5, 2) := by decide +kernel
theorem dX10_addRule_116 : decode cX10_addRule 116 = .ok (.iload 6, 2) := by decide +kernel
theorem dX10_addRule_118 : decode cX10_addRule 118 = .ok (.iload 7, 2) := by decide +kernel
theorem dX10_addRule_120 : decode cX10_addRule 120 = .ok (.invokevirtual 75, 3) := by decide +kernel
theorem dX10_addRule_123 : decode cX10_addRule 123 = .ok (.aload 8, 2) := by decide +kernel
theorem dX10_addRule_125 : decode cX10_addRule 125 = .ok (.invokevirtual 81, 3) := by decide +kernel
theorem dX10_addRule_128 : decode cX10_addRule 128 = .ok (.ireturn, 1) := by decide +kernel
theorem dX10_setCondition_0 : decode cX10_setCondition 0 = .ok (.aload_n 0, 1) := by decide +kernel
theorem dX10_setCondition_1 : decode cX10_setCondition 1 = .ok (.getfield 10, 3) := by decide +kernel
theorem dX10_setCondition_4 : decode cX10_setCondition 4 = .ok (.getfield 58, 3) := by decide +kernel
theorem dX10_setCondition_7 : decode cX10_setCondition 7 = .ok (.getfield 61, 3) := by decide +kernel
theorem dX10_setCondition_10 : decode cX10_setCondition 10 = .ok (.iload_n 1, 1) := by decide +kernel
theorem dX10_setCondition_11 : decode cX10_setCondition 11 = .ok (.invokevirtual 85, 3) := by decide +kernel
theorem dX10_setCondition_14 : decode cX10_setCondition 14 = .ok (.astore 5, 2) := by decide +kernel
theorem dX10_setCondition_16 : decode cX10_setCondition 16 = .ok (.aload 5, 2) := by decide +kernel
theorem dX10_setCondition_18 : decode cX10_setCondition 18 = .ok (.ifnonnull 7, 3) := by decide +kernel
theorem dX10_setCondition_21 : decode cX10_setCondition 21 = .ok (.sipush (-1001), 3) := by decide +kernel
theorem dX10_setCondition_24 : decode cX10_setCondition 24 = .ok (.ireturn, 1) := by decide +kernel
theorem dX10_setCondition_25 : decode cX10_setCondition 25 = .ok (.iload_n 2, 1) := by decide +kernel
theorem dX10_setCondition_26 : decode cX10_setCondition 26 = .ok (.iconst 0, 1) := by decide +kernel
theorem dX10_setCondition_27 : decode cX10_setCondition 27 = .ok (.iconst 3, 1) := by decide +kernel
theorem dX10_setCondition_28 : decode cX10_setCondition 28 = .ok (.invokestatic 47, 3) := by decide +kernel
theorem dX10_setCondition_31 : decode cX10_setCondition 31 = .ok (.ifCond .eq 20, 3) := by decide +kernel
theorem dX10_setCondition_34 : decode cX10_setCondition 34 = .ok (.iload_n 3, 1) := by decide +kernel
theorem dX10_setCondition_35 : decode cX10_setCondition 35 = .ok (.iconst 0, 1) := by decide +kernel
theorem dX10_setCondition_36 : decode cX10_setCondition 36 = .ok (.iconst 5, 1) := by decide +kernel
theorem dX10_setCondition_37 : decode cX10_setCondition 37 = .ok (.invokestatic 47, 3) := by decide +kernel
theorem dX10_setCondition_40 : decode cX10_setCondition 40 = .ok (.ifCond .eq 11, 3) := by decide +kernel
theorem dX10_setCondition_43 : decode cX10_setCondition 43 = .ok (.iload 4, 2) := by decide +kernel
theorem dX10_setCondition_45 : decode cX10_setCondition 45 = .ok (.invokestatic 55, 3) := by decide +kernel
theorem dX10_setCondition_48 : decode cX10_setCondition 48 = .ok (.ifCond .ne 7, 3) := by decide +kernel
theorem dX10_setCondition_51 : decode cX10_setCondition 51 = .ok (.sipush (-1002), 3) := by decide +kernel
theorem dX10_setCondition_54 : decode cX10_setCondition 54 = .ok (.ireturn, 1) := by decide +kernel
theorem dX10_setCondition_55 : decode cX10_setCondition 55 = .ok (.aload_n 0, 1) := by decide +kernel
theorem dX10_setCondition_56 : decode cX10_setCondition 56 = .ok (.getfield 29, 3) := by decide +kernel
theorem dX10_setCondition_59 : decode cX10_setCondition 59 = .ok (.aload_n 0, 1) := by decide +kernel
theorem dX10_setCondition_60 : decode cX10_setCondition 60 = .ok (.getfield 10, 3) := by decide +kernel
theorem dX10_setCondition_63 : decode cX10_setCondition 63 = .ok (.getfield 58, 3) := by decide +kernel
theorem dX10_setCondition_66 : decode cX10_setCondition 66 = .ok (.invokevirtual 71, 3) := by decide +kernel
theorem dX10_setCondition_69 : decode cX10_setCondition 69 = .ok (.aload 5, 2) := by decide +kernel
theorem dX10_setCondition_71 : decode cX10_setCondition 71 = .ok (.iload_n 2, 1) := by decide +kernel
theorem dX10_setCondition_72 : decode cX10_setCondition 72 = .ok (.iload_n 3, 1) := by decide +kernel
theorem dX10_setCondition_73 : decode cX10_setCondition 73 = .ok (.iload 4, 2) := by decide +kernel
theorem dX10_setCondition_75 : decode cX10_setCondition 75 = .ok (.invokevirtual 89, 3) := by decide +kernel
theorem dX10_setCondition_78 : decode cX10_setCondition 78 = .ok (.iload_n 1, 1) := by decide +kernel
theorem dX10_setCondition_79 : decode cX10_setCondition 79 = .ok (.ireturn, 1) := by decide +kernel
theorem dX10_put_0 : decode cX10_put 0 = .ok (.aload_n 0, 1) := by decide +kernel
theorem dX10_put_1 : decode cX10_put 1 = .ok (.getfield 10, 3) := by decide +kernel
theorem dX10_put_4 : decode cX10_put 4 = .ok (.getfield 58, 3) := by decide +kernel
theorem dX10_put_7 : decode cX10_put 7 = .ok (.getfield 61, 3) := by decide +kernel
theorem dX10_put_10 : decode cX10_put 10 = .ok (.iload_n 1, 1) := by decide +kernel
theorem dX10_put_11 : decode cX10_put 11 = .ok (.invokevirtual 85, 3) := by decide +kernel
theorem dX10_put_14 : decode cX10_put 14 = .ok (.astore_n 3, 1) := by decide +kernel
theorem dX10_put_15 : decode cX10_put 15 = .ok (.aload_n 3, 1) := by decide +kernel
theorem dX10_put_16 : decode cX10_put 16 = .ok (.ifnonnull 7, 3) := by decide +kernel
theorem dX10_put_19 : decode cX10_put 19 = .ok (.sipush (-1001), 3) := by decide +kernel
theorem dX10_put_22 : decode cX10_put 22 = .ok (.ireturn, 1) := by decide +kernel
theorem dX10_put_23 : decode cX10_put 23 = .ok (.aload_n 3, 1) := by decide +kernel
theorem dX10_put_24 : decode cX10_put 24 = .ok (.getfield 93, 3) := by decide +kernel
theorem dX10_put_27 : decode cX10_put 27 = .ok (.iload_n 2, 1) := by decide +kernel
theorem dX10_put_28 : decode cX10_put 28 = .ok (.if_icmp .ne 7, 3) := by decide +kernel
theorem dX10_put_31 : decode cX10_put 31 = .ok (.sipush (-1006), 3) := by decide +kernel
theorem dX10_put_34 : decode cX10_put 34 = .ok (.ireturn, 1) := by decide +kernel
theorem dX10_put_35 : decode cX10_put 35 = .ok (.aload_n 0, 1) := by decide +kernel
theorem dX10_put_36 : decode cX10_put 36 = .ok (.getfield 29, 3) := by decide +kernel
theorem dX10_put_39 : decode cX10_put 39 = .ok (.aload_n 0, 1) := by decide +kernel
theorem dX10_put_40 : decode cX10_put 40 = .ok (.getfield 10, 3) := by decide +kernel
theorem dX10_put_43 : decode cX10_put 43 = .ok (.getfield 58, 3) := by decide +kernel
theorem dX10_put_46 : decode cX10_put 46 = .ok (.invokevirtual 71, 3) := by decide +kernel
theorem dX10_put_49 : decode cX10_put 49 = .ok (.aload_n 3, 1) := by decide +kernel
theorem dX10_put_50 : decode cX10_put 50 = .ok (.iload_n 2, 1) := by decide +kernel
theorem dX10_put_51 : decode cX10_put 51 = .ok (.putfield 93, 3) := by decide +kernel
theorem dX10_put_54 : decode cX10_put 54 = .ok (.aload_n 0, 1) := by decide +kernel
theorem dX10_put_55 : decode cX10_put 55 = .ok (.getfield 10, 3) := by decide +kernel
theorem dX10_put_58 : decode cX10_put 58 = .ok (.getfield 58, 3) := by decide +kernel
theorem dX10_put_61 : decode cX10_put 61 = .ok (.getfield 61, 3) := by decide +kernel
theorem dX10_put_64 : decode cX10_put 64 = .ok (.invokevirtual 97, 3) := by decide +kernel
theorem dX10_put_67 : decode cX10_put 67 = .ok (.ireturn, 1) := by decide +kernel
theorem dX10_removeRule_0 : decode cX10_removeRule 0 = .ok (.aload_n 0, 1) := by decide +kernel
theorem dX10_removeRule_1 : decode cX10_removeRule 1 = .ok (.getfield 10, 3) := by decide +kernel
theorem dX10_removeRule_4 : decode cX10_removeRule 4 = .ok (.getfield 58, 3) := by decide +kernel
theorem dX10_removeRule_7 : decode cX10_removeRule 7 = .ok (.getfield 61, 3) := by decide +kernel
theorem dX10_removeRule_10 : decode cX10_removeRule 10 = .ok (.astore_n 2, 1) := by decide +kernel
theorem dX10_removeRule_11 : decode cX10_removeRule 11 = .ok (.aload_n 2, 1) := by decide +kernel
theorem dX10_removeRule_12 : decode cX10_removeRule 12 = .ok (.iload_n 1, 1) := by decide +kernel
theorem dX10_removeRule_13 : decode cX10_removeRule 13 = .ok (.invokevirtual 85, 3) := by decide +kernel
theorem dX10_removeRule_16 : decode cX10_removeRule 16 = .ok (.ifnonnull 7, 3) := by decide +kernel
theorem dX10_removeRule_19 : decode cX10_removeRule 19 = .ok (.sipush (-1001), 3) := by decide +kernel
theorem dX10_removeRule_22 : decode cX10_removeRule 22 = .ok (.ireturn, 1) := by decide +kernel
theorem dX10_removeRule_23 : decode cX10_removeRule 23 = .ok (.aload_n 0, 1) := by decide +kernel
theorem dX10_removeRule_24 : decode cX10_removeRule 24 = .ok (.getfield 29, 3) := by decide +kernel
theorem dX10_removeRule_27 : decode cX10_removeRule 27 = .ok (.aload_n 0, 1) := by decide +kernel
theorem dX10_removeRule_28 : decode cX10_removeRule 28 = .ok (.getfield 10, 3) := by decide +kernel
theorem dX10_removeRule_31 : decode cX10_removeRule 31 = .ok (.getfield 58, 3) := by decide +kernel
theorem dX10_removeRule_34 : decode cX10_removeRule 34 = .ok (.invokevirtual 71, 3) := by decide +kernel
theorem dX10_removeRule_37 : decode cX10_removeRule 37 = .ok (.aload_n 2, 1) := by decide +kernel
theorem dX10_removeRule_38 : decode cX10_removeRule 38 = .ok (.iload_n 1, 1) := by decide +kernel
theorem dX10_removeRule_39 : decode cX10_removeRule 39 = .ok (.invokevirtual 100, 3) := by decide +kernel
theorem dX10_removeRule_42 : decode cX10_removeRule 42 = .ok (.aload_n 2, 1) := by decide +kernel
theorem dX10_removeRule_43 : decode cX10_removeRule 43 = .ok (.getfield 104, 3) := by decide +kernel
theorem dX10_removeRule_46 : decode cX10_removeRule 46 = .ok (.ireturn, 1) := by decide +kernel
theorem dX10_set_0 : decode cX10_set 0 = .ok (.iload_n 1, 1) := by decide +kernel
theorem dX10_set_1 : decode cX10_set 1 = .ok (.iconst 0, 1) := by decide +kernel
theorem dX10_set_2 : decode cX10_set 2 = .ok (.iconst 1, 1) := by decide +kernel
theorem dX10_set_3 : decode cX10_set 3 = .ok (.invokestatic 47, 3) := by decide +kernel
theorem dX10_set_6 : decode cX10_set 6 = .ok (.ifCond .ne 7, 3) := by decide +kernel
theorem dX10_set_9 : decode cX10_set 9 = .ok (.sipush (-1001), 3) := by decide +kernel
theorem dX10_set_12 : decode cX10_set 12 = .ok (.ireturn, 1) := by decide +kernel
theorem dX10_set_13 : decode cX10_set 13 = .ok (.iload_n 1, 1) := by decide +kernel
theorem dX10_set_14 : decode cX10_set 14 = .ok (.ifCond .ne 13, 3) := by decide +kernel
theorem dX10_set_17 : decode cX10_set 17 = .ok (.iload_n 2, 1) := by decide +kernel
theorem dX10_set_18 : decode cX10_set 18 = .ok (.iconst 1, 1) := by decide +kernel
theorem dX10_set_19 : decode cX10_set 19 = .ok (.bipush 8, 2) := by decide +kernel
theorem dX10_set_21 : decode cX10_set 21 = .ok (.invokestatic 47, 3) := by decide +kernel
theorem dX10_set_24 : decode cX10_set 24 = .ok (.goto 9, 3) := by decide +kernel
theorem dX10_set_27 : decode cX10_set 27 = .ok (.iload_n 2, 1) := by decide +kernel
theorem dX10_set_28 : decode cX10_set 28 = .ok (.iconst 0, 1) := by decide +kernel
theorem dX10_set_29 : decode cX10_set 29 = .ok (.iconst 1, 1) := by decide +kernel
theorem dX10_set_30 : decode cX10_set 30 = .ok (.invokestatic 47, 3) := by decide +kernel
theorem dX10_set_33 : decode cX10_set 33 = .ok (.istore_n 3, 1) := by decide +kernel
theorem dX10_set_34 : decode cX10_set 34 = .ok (.iload_n 3, 1) := by decide +kernel
theorem dX10_set_35 : decode cX10_set 35 = .ok (.ifCond .ne 7, 3) := by decide +kernel
theorem dX10_set_38 : decode cX10_set 38 = .ok (.sipush (-1002), 3) := by decide +kernel
theorem dX10_set_41 : decode cX10_set 41 = .ok (.ireturn, 1) := by decide +kernel
theorem dX10_set_42 : decode cX10_set 42 = .ok (.aload_n 0, 1) := by decide +kernel
theorem dX10_set_43 : decode cX10_set 43 = .ok (.getfield 10, 3) := by decide +kernel
theorem dX10_set_46 : decode cX10_set 46 = .ok (.getfield 58, 3) := by decide +kernel
theorem dX10_set_49 : decode cX10_set 49 = .ok (.astore 4, 2) := by decide +kernel
theorem dX10_set_51 : decode cX10_set 51 = .ok (.iload_n 1, 1) := by decide +kernel
theorem dX10_set_52 : decode cX10_set 52 = .ok (.ifCond .ne 11, 3) := by decide +kernel
theorem dX10_set_55 : decode cX10_set 55 = .ok (.aload 4, 2) := by decide +kernel
theorem dX10_set_57 : decode cX10_set 57 = .ok (.getfield 108, 3) := by decide +kernel
theorem dX10_set_60 : decode cX10_set 60 = .ok (.goto 8, 3) := by decide +kernel
theorem dX10_set_63 : decode cX10_set 63 = .ok (.aload 4, 2) := by decide +kernel
theorem dX10_set_65 : decode cX10_set 65 = .ok (.getfield 111, 3) := by decide +kernel
theorem dX10_set_68 : decode cX10_set 68 = .ok (.istore 5, 2) := by decide +kernel
theorem dX10_set_70 : decode cX10_set 70 = .ok (.iload 5, 2) := by decide +kernel
theorem dX10_set_72 : decode cX10_set 72 = .ok (.iload_n 2, 1) := by decide +kernel
theorem dX10_set_73 : decode cX10_set 73 = .ok (.if_icmp .ne 7, 3) := by decide +kernel
theorem dX10_set_76 : decode cX10_set 76 = .ok (.sipush (-1006), 3) := by decide +kernel
theorem dX10_set_79 : decode cX10_set 79 = .ok (.ireturn, 1) := by decide +kernel
theorem dX10_set_80 : decode cX10_set 80 = .ok (.aload_n 0, 1) := by decide +kernel
theorem dX10_set_81 : decode cX10_set 81 = .ok (.getfield 29, 3) := by decide +kernel
theorem dX10_set_84 : decode cX10_set 84 = .ok (.aload 4, 2) := by decide +kernel
theorem dX10_set_86 : decode cX10_set 86 = .ok (.invokevirtual 71, 3) := by decide +kernel
theorem dX10_set_89 : decode cX10_set 89 = .ok (.iload_n 1, 1) := by decide +kernel
theorem dX10_set_90 : decode cX10_set 90 = .ok (.ifCond .ne 12, 3) := by decide +kernel
theorem dX10_set_93 : decode cX10_set 93 = .ok (.aload 4, 2) := by decide +kernel
theorem dX10_set_95 : decode cX10_set 95 = .ok (.iload_n 2, 1) := by decide +kernel
theorem dX10_set_96 : decode cX10_set 96 = .ok (.putfield 108, 3) := by decide +kernel
theorem dX10_set_99 : decode cX10_set 99 = .ok (.goto 9, 3) := by decide +kernel
theorem dX10_set_102 : decode cX10_set 102 = .ok (.aload 4, 2) := by decide +kernel
theorem dX10_set_104 : decode cX10_set 104 = .ok (.iload_n 2, 1) := by decide +kernel
theorem dX10_set_105 : decode cX10_set 105 = .ok (.putfield 111, 3) := by decide +kernel
theorem dX10_set_108 : decode cX10_set 108 = .ok (.iload 5, 2) := by decide +kernel
theorem dX10_set_110 : decode cX10_set 110 = .ok (.ireturn, 1) := by decide +kernel
theorem dX10_insert_0 : decode cX10_insert 0 = .ok (.aload_n 0, 1) := by decide +kernel
theorem dX10_insert_1 : decode cX10_insert 1 = .ok (.getfield 19, 3) := by decide +kernel
theorem dX10_insert_4 : decode cX10_insert 4 = .ok (.aload_n 0, 1) := by decide +kernel
theorem dX10_insert_5 : decode cX10_insert 5 = .ok (.getfield 10, 3) := by decide +kernel
theorem dX10_insert_8 : decode cX10_insert 8 = .ok (.getfield 58, 3) := by decide +kernel
theorem dX10_insert_11 : decode cX10_insert 11 = .ok (.invokevirtual 114, 3) := by decide +kernel
theorem dX10_insert_14 : decode cX10_insert 14 = .ok (.aload_n 0, 1) := by decide +kernel
theorem dX10_insert_15 : decode cX10_insert 15 = .ok (.aload_n 0, 1) := by decide +kernel
theorem dX10_insert_16 : decode cX10_insert 16 = .ok (.getfield 10, 3) := by decide +kernel
theorem dX10_insert_19 : decode cX10_insert 19 = .ok (.iload_n 1, 1) := by decide +kernel
theorem dX10_insert_20 : decode cX10_insert 20 = .ok (.iload_n 2, 1) := by decide +kernel
theorem dX10_insert_21 : decode cX10_insert 21 = .ok (.iload_n 3, 1) := by decide +kernel
theorem dX10_insert_22 : decode cX10_insert 22 = .ok (.iload 4, 2) := by decide +kernel
theorem dX10_insert_24 : decode cX10_insert 24 = .ok (.invokevirtual 117, 3) := by decide +kernel
theorem dX10_insert_27 : decode cX10_insert 27 = .ok (.invokevirtual 121, 3) := by decide +kernel
theorem dX10_insert_30 : decode cX10_insert 30 = .ok (.ireturn, 1) := by decide +kernel
theorem dX10_update_0 : decode cX10_update 0 = .ok (.aload_n 0, 1) := by decide +kernel
theorem dX10_update_1 : decode cX10_update 1 = .ok (.getfield 19, 3) := by decide +kernel
theorem dX10_update_4 : decode cX10_update 4 = .ok (.aload_n 0, 1) := by decide +kernel
theorem dX10_update_5 : decode cX10_update 5 = .ok (.getfield 10, 3) := by decide +kernel
theorem dX10_update_8 : decode cX10_update 8 = .ok (.getfield 58, 3) := by decide +kernel
theorem dX10_update_11 : decode cX10_update 11 = .ok (.invokevirtual 114, 3) := by decide +kernel
theorem dX10_update_14 : decode cX10_update 14 = .ok (.aload_n 0, 1) := by decide +kernel
theorem dX10_update_15 : decode cX10_update 15 = .ok (.aload_n 0, 1) := by decide +kernel
theorem dX10_update_16 : decode cX10_update 16 = .ok (.getfield 10, 3) := by decide +kernel
theorem dX10_update_19 : decode cX10_update 19 = .ok (.iload_n 1, 1) := by decide +kernel
theorem dX10_update_20 : decode cX10_update 20 = .ok (.iload_n 2, 1) := by decide +kernel
theorem dX10_update_21 : decode cX10_update 21 = .ok (.iload_n 3, 1) := by decide +kernel
theorem dX10_update_22 : decode cX10_update 22 = .ok (.invokevirtual 125, 3) := by decide +kernel
theorem dX10_update_25 : decode cX10_update 25 = .ok (.invokevirtual 121, 3) := by decide +kernel
theorem dX10_update_28 : decode cX10_update 28 = .ok (.ireturn, 1) := by decide +kernel
theorem dX10_delete_0 : decode cX10_delete 0 = .ok (.aload_n 0, 1) := by decide +kernel
theorem dX10_delete_1 : decode cX10_delete 1 = .ok (.getfield 19, 3) := by decide +kernel
theorem dX10_delete_4 : decode cX10_delete 4 = .ok (.aload_n 0, 1) := by decide +kernel
theorem dX10_delete_5 : decode cX10_delete 5 = .ok (.getfield 10, 3) := by decide +kernel
theorem dX10_delete_8 : decode cX10_delete 8 = .ok (.getfield 58, 3) := by decide +kernel
theorem dX10_delete_11 : decode cX10_delete 11 = .ok (.invokevirtual 114, 3) := by decide +kernel
theorem dX10_delete_14 : decode cX10_delete 14 = .ok (.aload_n 0, 1) := by decide +kernel
theorem dX10_delete_15 : decode cX10_delete 15 = .ok (.aload_n 0, 1) := by decide +kernel
theorem dX10_delete_16 : decode cX10_delete 16 = .ok (.getfield 10, 3) := by decide +kernel
theorem dX10_delete_19 : decode cX10_delete 19 = .ok (.iload_n 1, 1) := by decide +kernel
theorem dX10_delete_20 : decode cX10_delete 20 = .ok (.invokevirtual 129, 3) := by decide +kernel
theorem dX10_delete_23 : decode cX10_delete 23 = .ok (.invokevirtual 121, 3) := by decide +kernel
theorem dX10_delete_26 : decode cX10_delete 26 = .ok (.ireturn, 1) := by decide +kernel
theorem dX10_type_0 : decode cX10_type 0 = .ok (.aload_n 0, 1) := by decide +kernel
theorem dX10_type_1 : decode cX10_type 1 = .ok (.getfield 36, 3) := by decide +kernel
theorem dX10_type_4 : decode cX10_type 4 = .ok (.iload_n 1, 1) := by decide +kernel
theorem dX10_type_5 : decode cX10_type 5 = .ok (.invokevirtual 132, 3) := by decide +kernel
theorem dX10_type_8 : decode cX10_type 8 = .ok (.ifCond .eq 13, 3) := by decide +kernel
theorem dX10_type_11 : decode cX10_type 11 = .ok (.aload_n 0, 1) := by decide +kernel
theorem dX10_type_12 : decode cX10_type 12 = .ok (.getfield 36, 3) := by decide +kernel
theorem dX10_type_15 : decode cX10_type 15 = .ok (.getfield 136, 3) := by decide +kernel
theorem dX10_type_18 : decode cX10_type 18 = .ok (.goto 6, 3) := by decide +kernel
theorem dX10_type_21 : decode cX10_type 21 = .ok (.sipush (-1003), 3) := by decide +kernel
theorem dX10_type_24 : decode cX10_type 24 = .ok (.ireturn, 1) := by decide +kernel
theorem dX10_clearText_0 : decode cX10_clearText 0 = .ok (.aload_n 0, 1) := by decide +kernel
theorem dX10_clearText_1 : decode cX10_clearText 1 = .ok (.getfield 36, 3) := by decide +kernel
theorem dX10_clearText_4 : decode cX10_clearText 4 = .ok (.getfield 136, 3) := by decide +kernel
theorem dX10_clearText_7 : decode cX10_clearText 7 = .ok (.istore_n 1, 1) := by decide +kernel
theorem dX10_clearText_8 : decode cX10_clearText 8 = .ok (.aload_n 0, 1) := by decide +kernel
theorem dX10_clearText_9 : decode cX10_clearText 9 = .ok (.getfield 36, 3) := by decide +kernel
theorem dX10_clearText_12 : decode cX10_clearText 12 = .ok (.iconst 0, 1) := by decide +kernel
theorem dX10_clearText_13 : decode cX10_clearText 13 = .ok (.putfield 136, 3) := by decide +kernel
theorem dX10_clearText_16 : decode cX10_clearText 16 = .ok (.iload_n 1, 1) := by decide +kernel
theorem dX10_clearText_17 : decode cX10_clearText 17 = .ok (.ireturn, 1) := by decide +kernel
theorem dX10_perform_0 : decode cX10_perform 0 = .ok (.aload_n 0, 1) := by decide +kernel
theorem dX10_perform_1 : decode cX10_perform 1 = .ok (.getfield 36, 3) := by decide +kernel
theorem dX10_perform_4 : decode cX10_perform 4 = .ok (.invokevirtual 139, 3) := by decide +kernel
theorem dX10_perform_7 : decode cX10_perform 7 = .ok (.istore_n 1, 1) := by decide +kernel
theorem dX10_perform_8 : decode cX10_perform 8 = .ok (.iload_n 1, 1) := by decide +kernel
theorem dX10_perform_9 : decode cX10_perform 9 = .ok (.ifCond .ge 5, 3) := by decide +kernel
theorem dX10_perform_12 : decode cX10_perform 12 = .ok (.iload_n 1, 1) := by decide +kernel
theorem dX10_perform_13 : decode cX10_perform 13 = .ok (.ireturn, 1) := by decide +kernel
theorem dX10_perform_14 : decode cX10_perform 14 = .ok (.aload_n 0, 1) := by decide +kernel
theorem dX10_perform_15 : decode cX10_perform 15 = .ok (.getfield 19, 3) := by decide +kernel
theorem dX10_perform_18 : decode cX10_perform 18 = .ok (.aload_n 0, 1) := by decide +kernel
theorem dX10_perform_19 : decode cX10_perform 19 = .ok (.getfield 10, 3) := by decide +kernel
theorem dX10_perform_22 : decode cX10_perform 22 = .ok (.getfield 58, 3) := by decide +kernel
theorem dX10_perform_25 : decode cX10_perform 25 = .ok (.invokevirtual 114, 3) := by decide +kernel
theorem dX10_perform_28 : decode cX10_perform 28 = .ok (.aload_n 0, 1) := by decide +kernel
theorem dX10_perform_29 : decode cX10_perform 29 = .ok (.getfield 36, 3) := by decide +kernel
theorem dX10_perform_32 : decode cX10_perform 32 = .ok (.invokevirtual 142, 3) := by decide +kernel
theorem dX10_perform_35 : decode cX10_perform 35 = .ok (.iconst 0, 1) := by decide +kernel
theorem dX10_perform_36 : decode cX10_perform 36 = .ok (.istore_n 2, 1) := by decide +kernel
theorem dX10_perform_37 : decode cX10_perform 37 = .ok (.iload_n 2, 1) := by decide +kernel
theorem dX10_perform_38 : decode cX10_perform 38 = .ok (.iload_n 1, 1) := by decide +kernel
theorem dX10_perform_39 : decode cX10_perform 39 = .ok (.if_icmp .ge 38, 3) := by decide +kernel
theorem dX10_perform_42 : decode cX10_perform 42 = .ok (.aload_n 0, 1) := by decide +kernel
theorem dX10_perform_43 : decode cX10_perform 43 = .ok (.getfield 36, 3) := by decide +kernel
theorem dX10_perform_46 : decode cX10_perform 46 = .ok (.invokevirtual 145, 3) := by decide +kernel
theorem dX10_perform_49 : decode cX10_perform 49 = .ok (.aload_n 0, 1) := by decide +kernel
theorem dX10_perform_50 : decode cX10_perform 50 = .ok (.invokevirtual 148, 3) := by decide +kernel
theorem dX10_perform_53 : decode cX10_perform 53 = .ok (.istore_n 3, 1) := by decide +kernel
theorem dX10_perform_54 : decode cX10_perform 54 = .ok (.iload_n 3, 1) := by decide +kernel
theorem dX10_perform_55 : decode cX10_perform 55 = .ok (.ifCond .ge 16, 3) := by decide +kernel
theorem dX10_perform_58 : decode cX10_perform 58 = .ok (.iload_n 3, 1) := by decide +kernel
theorem dX10_perform_59 : decode cX10_perform 59 = .ok (.sipush (-1006), 3) := by decide +kernel
theorem dX10_perform_62 : decode cX10_perform 62 = .ok (.if_icmp .eq 9, 3) := by decide +kernel
theorem dX10_perform_65 : decode cX10_perform 65 = .ok (.aload_n 0, 1) := by decide +kernel
theorem dX10_perform_66 : decode cX10_perform 66 = .ok (.iload_n 3, 1) := by decide +kernel
theorem dX10_perform_67 : decode cX10_perform 67 = .ok (.invokevirtual 121, 3) := by decide +kernel
theorem dX10_perform_70 : decode cX10_perform 70 = .ok (.ireturn, 1) := by decide +kernel
theorem dX10_perform_71 : decode cX10_perform 71 = .ok (.iinc 2 1, 3) := by decide +kernel
theorem dX10_perform_74 : decode cX10_perform 74 = .ok (.goto (-37), 3) := by decide +kernel
theorem dX10_perform_77 : decode cX10_perform 77 = .ok (.aload_n 0, 1) := by decide +kernel
theorem dX10_perform_78 : decode cX10_perform 78 = .ok (.iload_n 1, 1) := by decide +kernel
theorem dX10_perform_79 : decode cX10_perform 79 = .ok (.invokevirtual 121, 3) := by decide +kernel
theorem dX10_perform_82 : decode cX10_perform 82 = .ok (.ireturn, 1) := by decide +kernel
theorem dX10_undo_0 : decode cX10_undo 0 = .ok (.aload_n 0, 1) := by decide +kernel
theorem dX10_undo_1 : decode cX10_undo 1 = .ok (.getfield 29, 3) := by decide +kernel
theorem dX10_undo_4 : decode cX10_undo 4 = .ok (.aload_n 0, 1) := by decide +kernel
theorem dX10_undo_5 : decode cX10_undo 5 = .ok (.getfield 10, 3) := by decide +kernel
theorem dX10_undo_8 : decode cX10_undo 8 = .ok (.getfield 58, 3) := by decide +kernel
theorem dX10_undo_11 : decode cX10_undo 11 = .ok (.invokevirtual 151, 3) := by decide +kernel
theorem dX10_undo_14 : decode cX10_undo 14 = .ok (.ifCond .eq 13, 3) := by decide +kernel
theorem dX10_undo_17 : decode cX10_undo 17 = .ok (.aload_n 0, 1) := by decide +kernel
theorem dX10_undo_18 : decode cX10_undo 18 = .ok (.getfield 29, 3) := by decide +kernel
theorem dX10_undo_21 : decode cX10_undo 21 = .ok (.getfield 155, 3) := by decide +kernel
theorem dX10_undo_24 : decode cX10_undo 24 = .ok (.goto 6, 3) := by decide +kernel
theorem dX10_undo_27 : decode cX10_undo 27 = .ok (.sipush (-1006), 3) := by decide +kernel
theorem dX10_undo_30 : decode cX10_undo 30 = .ok (.ireturn, 1) := by decide +kernel
theorem dX10_keep_0 : decode cX10_keep 0 = .ok (.aload_n 0, 1) := by decide +kernel
theorem dX10_keep_1 : decode cX10_keep 1 = .ok (.getfield 23, 3) := by decide +kernel
theorem dX10_keep_4 : decode cX10_keep 4 = .ok (.aload_n 0, 1) := by decide +kernel
theorem dX10_keep_5 : decode cX10_keep 5 = .ok (.getfield 10, 3) := by decide +kernel
theorem dX10_keep_8 : decode cX10_keep 8 = .ok (.getfield 58, 3) := by decide +kernel
theorem dX10_keep_11 : decode cX10_keep 11 = .ok (.invokevirtual 114, 3) := by decide +kernel
theorem dX10_keep_14 : decode cX10_keep 14 = .ok (.aload_n 0, 1) := by decide +kernel
theorem dX10_keep_15 : decode cX10_keep 15 = .ok (.iconst 1, 1) := by decide +kernel
theorem dX10_keep_16 : decode cX10_keep 16 = .ok (.putfield 156, 3) := by decide +kernel
theorem dX10_keep_19 : decode cX10_keep 19 = .ok (.aload_n 0, 1) := by decide +kernel
theorem dX10_keep_20 : decode cX10_keep 20 = .ok (.getfield 23, 3) := by decide +kernel
theorem dX10_keep_23 : decode cX10_keep 23 = .ok (.getfield 159, 3) := by decide +kernel
theorem dX10_keep_26 : decode cX10_keep 26 = .ok (.getfield 163, 3) := by decide +kernel
theorem dX10_keep_29 : decode cX10_keep 29 = .ok (.ireturn, 1) := by decide +kernel
theorem dX10_restore_0 : decode cX10_restore 0 = .ok (.aload_n 0, 1) := by decide +kernel
theorem dX10_restore_1 : decode cX10_restore 1 = .ok (.getfield 156, 3) := by decide +kernel
theorem dX10_restore_4 : decode cX10_restore 4 = .ok (.ifCond .ne 7, 3) := by decide +kernel
theorem dX10_restore_7 : decode cX10_restore 7 = .ok (.sipush (-1006), 3) := by decide +kernel
theorem dX10_restore_10 : decode cX10_restore 10 = .ok (.ireturn, 1) := by decide +kernel
theorem dX10_restore_11 : decode cX10_restore 11 = .ok (.aload_n 0, 1) := by decide +kernel
theorem dX10_restore_12 : decode cX10_restore 12 = .ok (.getfield 29, 3) := by decide +kernel
theorem dX10_restore_15 : decode cX10_restore 15 = .ok (.aload_n 0, 1) := by decide +kernel
theorem dX10_restore_16 : decode cX10_restore 16 = .ok (.getfield 10, 3) := by decide +kernel
theorem dX10_restore_19 : decode cX10_restore 19 = .ok (.getfield 58, 3) := by decide +kernel
theorem dX10_restore_22 : decode cX10_restore 22 = .ok (.invokevirtual 71, 3) := by decide +kernel
theorem dX10_restore_25 : decode cX10_restore 25 = .ok (.aload_n 0, 1) := by decide +kernel
theorem dX10_restore_26 : decode cX10_restore 26 = .ok (.getfield 10, 3) := by decide +kernel
theorem dX10_restore_29 : decode cX10_restore 29 = .ok (.getfield 58, 3) := by decide +kernel
theorem dX10_restore_32 : decode cX10_restore 32 = .ok (.aload_n 0, 1) := by decide +kernel
theorem dX10_restore_33 : decode cX10_restore 33 = .ok (.getfield 23, 3) := by decide +kernel
theorem dX10_restore_36 : decode cX10_restore 36 = .ok (.invokevirtual 114, 3) := by decide +kernel
theorem dX10_restore_39 : decode cX10_restore 39 = .ok (.aload_n 0, 1) := by decide +kernel
theorem dX10_restore_40 : decode cX10_restore 40 = .ok (.getfield 23, 3) := by decide +kernel
theorem dX10_restore_43 : decode cX10_restore 43 = .ok (.getfield 159, 3) := by decide +kernel
theorem dX10_restore_46 : decode cX10_restore 46 = .ok (.getfield 163, 3) := by decide +kernel
theorem dX10_restore_49 : decode cX10_restore 49 = .ok (.ireturn, 1) := by decide +kernel
theorem dX10_field_0 : decode cX10_field 0 = .ok (.aload_n 0, 1) := by decide +kernel
theorem dX10_field_1 : decode cX10_field 1 = .ok (.getfield 10, 3) := by decide +kernel
theorem dX10_field_4 : decode cX10_field 4 = .ok (.getfield 58, 3) := by decide +kernel
theorem dX10_field_7 : decode cX10_field 7 = .ok (.getfield 159, 3) := by decide +kernel
theorem dX10_field_10 : decode cX10_field 10 = .ok (.iload_n 1, 1) := by decide +kernel
theorem dX10_field_11 : decode cX10_field 11 = .ok (.invokevirtual 166, 3) := by decide +kernel
theorem dX10_field_14 : decode cX10_field 14 = .ok (.astore_n 3, 1) := by decide +kernel
theorem dX10_field_15 : decode cX10_field 15 = .ok (.aload_n 3, 1) := by decide +kernel
theorem dX10_field_16 : decode cX10_field 16 = .ok (.ifnonnull 7, 3) := by decide +kernel
theorem dX10_field_19 : decode cX10_field 19 = .ok (.sipush (-1001), 3) := by decide +kernel
theorem dX10_field_22 : decode cX10_field 22 = .ok (.ireturn, 1) := by decide +kernel
theorem dX10_field_23 : decode cX10_field 23 = .ok (.iload_n 2, 1) := by decide +kernel
theorem dX10_field_24 : decode cX10_field 24 = .ok (.iconst 0, 1) := by decide +kernel
theorem dX10_field_25 : decode cX10_field 25 = .ok (.iconst 2, 1) := by decide +kernel
theorem dX10_field_26 : decode cX10_field 26 = .ok (.invokestatic 47, 3) := by decide +kernel
theorem dX10_field_29 : decode cX10_field 29 = .ok (.ifCond .eq 11, 3) := by decide +kernel
theorem dX10_field_32 : decode cX10_field 32 = .ok (.aload_n 3, 1) := by decide +kernel
theorem dX10_field_33 : decode cX10_field 33 = .ok (.iload_n 2, 1) := by decide +kernel
theorem dX10_field_34 : decode cX10_field 34 = .ok (.invokevirtual 170, 3) := by decide +kernel
theorem dX10_field_37 : decode cX10_field 37 = .ok (.goto 6, 3) := by decide +kernel
theorem dX10_field_40 : decode cX10_field 40 = .ok (.sipush (-1002), 3) := by decide +kernel
theorem dX10_field_43 : decode cX10_field 43 = .ok (.ireturn, 1) := by decide +kernel
theorem dX10_keyAt_0 : decode cX10_keyAt 0 = .ok (.iload_n 1, 1) := by decide +kernel
theorem dX10_keyAt_1 : decode cX10_keyAt 1 = .ok (.ifCond .ge 7, 3) := by decide +kernel
theorem dX10_keyAt_4 : decode cX10_keyAt 4 = .ok (.sipush (-1002), 3) := by decide +kernel
theorem dX10_keyAt_7 : decode cX10_keyAt 7 = .ok (.ireturn, 1) := by decide +kernel
theorem dX10_keyAt_8 : decode cX10_keyAt 8 = .ok (.aload_n 0, 1) := by decide +kernel
theorem dX10_keyAt_9 : decode cX10_keyAt 9 = .ok (.getfield 10, 3) := by decide +kernel
theorem dX10_keyAt_12 : decode cX10_keyAt 12 = .ok (.getfield 58, 3) := by decide +kernel
theorem dX10_keyAt_15 : decode cX10_keyAt 15 = .ok (.getfield 159, 3) := by decide +kernel
theorem dX10_keyAt_18 : decode cX10_keyAt 18 = .ok (.iload_n 1, 1) := by decide +kernel
theorem dX10_keyAt_19 : decode cX10_keyAt 19 = .ok (.invokevirtual 175, 3) := by decide +kernel
theorem dX10_keyAt_22 : decode cX10_keyAt 22 = .ok (.astore_n 2, 1) := by decide +kernel
theorem dX10_keyAt_23 : decode cX10_keyAt 23 = .ok (.aload_n 2, 1) := by decide +kernel
theorem dX10_keyAt_24 : decode cX10_keyAt 24 = .ok (.ifnonnull 9, 3) := by decide +kernel
theorem dX10_keyAt_27 : decode cX10_keyAt 27 = .ok (.sipush (-1006), 3) := by decide +kernel
theorem dX10_keyAt_30 : decode cX10_keyAt 30 = .ok (.goto 7, 3) := by decide +kernel
theorem dX10_keyAt_33 : decode cX10_keyAt 33 = .ok (.aload_n 2, 1) := by decide +kernel
theorem dX10_keyAt_34 : decode cX10_keyAt 34 = .ok (.getfield 178, 3) := by decide +kernel
theorem dX10_keyAt_37 : decode cX10_keyAt 37 = .ok (.ireturn, 1) := by decide +kernel
theorem dX10_rule_0 : decode cX10_rule 0 = .ok (.aload_n 0, 1) := by decide +kernel
theorem dX10_rule_1 : decode cX10_rule 1 = .ok (.getfield 10, 3) := by decide +kernel
theorem dX10_rule_4 : decode cX10_rule 4 = .ok (.getfield 58, 3) := by decide +kernel
theorem dX10_rule_7 : decode cX10_rule 7 = .ok (.getfield 61, 3) := by decide +kernel
theorem dX10_rule_10 : decode cX10_rule 10 = .ok (.iload_n 1, 1) := by decide +kernel
theorem dX10_rule_11 : decode cX10_rule 11 = .ok (.invokevirtual 85, 3) := by decide +kernel
theorem dX10_rule_14 : decode cX10_rule 14 = .ok (.astore_n 3, 1) := by decide +kernel
theorem dX10_rule_15 : decode cX10_rule 15 = .ok (.aload_n 3, 1) := by decide +kernel
theorem dX10_rule_16 : decode cX10_rule 16 = .ok (.ifnonnull 9, 3) := by decide +kernel
theorem dX10_rule_19 : decode cX10_rule 19 = .ok (.sipush (-1001), 3) := by decide +kernel
theorem dX10_rule_22 : decode cX10_rule 22 = .ok (.goto 8, 3) := by decide +kernel
theorem dX10_rule_25 : decode cX10_rule 25 = .ok (.aload_n 3, 1) := by decide +kernel
theorem dX10_rule_26 : decode cX10_rule 26 = .ok (.iload_n 2, 1) := by decide +kernel
theorem dX10_rule_27 : decode cX10_rule 27 = .ok (.invokevirtual 181, 3) := by decide +kernel
theorem dX10_rule_30 : decode cX10_rule 30 = .ok (.ireturn, 1) := by decide +kernel
theorem dX10_order_0 : decode cX10_order 0 = .ok (.iload_n 1, 1) := by decide +kernel
theorem dX10_order_1 : decode cX10_order 1 = .ok (.invokestatic 40, 3) := by decide +kernel
theorem dX10_order_4 : decode cX10_order 4 = .ok (.ifCond .eq 14, 3) := by decide +kernel
theorem dX10_order_7 : decode cX10_order 7 = .ok (.iload_n 2, 1) := by decide +kernel
theorem dX10_order_8 : decode cX10_order 8 = .ok (.invokestatic 44, 3) := by decide +kernel
theorem dX10_order_11 : decode cX10_order 11 = .ok (.ifCond .eq 7, 3) := by decide +kernel
theorem dX10_order_14 : decode cX10_order 14 = .ok (.iload_n 3, 1) := by decide +kernel
theorem dX10_order_15 : decode cX10_order 15 = .ok (.ifCond .ge 7, 3) := by decide +kernel
theorem dX10_order_18 : decode cX10_order 18 = .ok (.sipush (-1002), 3) := by decide +kernel
theorem dX10_order_21 : decode cX10_order 21 = .ok (.ireturn, 1) := by decide +kernel
theorem dX10_order_22 : decode cX10_order 22 = .ok (.aload_n 0, 1) := by decide +kernel
theorem dX10_order_23 : decode cX10_order 23 = .ok (.getfield 10, 3) := by decide +kernel
theorem dX10_order_26 : decode cX10_order 26 = .ok (.getfield 58, 3) := by decide +kernel
theorem dX10_order_29 : decode cX10_order 29 = .ok (.getfield 61, 3) := by decide +kernel
theorem dX10_order_32 : decode cX10_order 32 = .ok (.iload_n 1, 1) := by decide +kernel
theorem dX10_order_33 : decode cX10_order 33 = .ok (.iload_n 2, 1) := by decide +kernel
theorem dX10_order_34 : decode cX10_order 34 = .ok (.iload_n 3, 1) := by decide +kernel
theorem dX10_order_35 : decode cX10_order 35 = .ok (.invokevirtual 184, 3) := by decide +kernel
theorem dX10_order_38 : decode cX10_order 38 = .ok (.ireturn, 1) := by decide +kernel
theorem dX10_firing_0 : decode cX10_firing 0 = .ok (.iload_n 1, 1) := by decide +kernel
theorem dX10_firing_1 : decode cX10_firing 1 = .ok (.ifCond .lt 12, 3) := by decide +kernel
theorem dX10_firing_4 : decode cX10_firing 4 = .ok (.iload_n 2, 1) := by decide +kernel
theorem dX10_firing_5 : decode cX10_firing 5 = .ok (.iconst 0, 1) := by decide +kernel
theorem dX10_firing_6 : decode cX10_firing 6 = .ok (.iconst 2, 1) := by decide +kernel
theorem dX10_firing_7 : decode cX10_firing 7 = .ok (.invokestatic 47, 3) := by decide +kernel
theorem dX10_firing_10 : decode cX10_firing 10 = .ok (.ifCond .ne 7, 3) := by decide +kernel
theorem dX10_firing_13 : decode cX10_firing 13 = .ok (.sipush (-1002), 3) := by decide +kernel
theorem dX10_firing_16 : decode cX10_firing 16 = .ok (.ireturn, 1) := by decide +kernel
theorem dX10_firing_17 : decode cX10_firing 17 = .ok (.aload_n 0, 1) := by decide +kernel
theorem dX10_firing_18 : decode cX10_firing 18 = .ok (.getfield 10, 3) := by decide +kernel
theorem dX10_firing_21 : decode cX10_firing 21 = .ok (.getfield 58, 3) := by decide +kernel
theorem dX10_firing_24 : decode cX10_firing 24 = .ok (.getfield 187, 3) := by decide +kernel
theorem dX10_firing_27 : decode cX10_firing 27 = .ok (.iload_n 1, 1) := by decide +kernel
theorem dX10_firing_28 : decode cX10_firing 28 = .ok (.iload_n 2, 1) := by decide +kernel
theorem dX10_firing_29 : decode cX10_firing 29 = .ok (.invokevirtual 191, 3) := by decide +kernel
theorem dX10_firing_32 : decode cX10_firing 32 = .ok (.ireturn, 1) := by decide +kernel
theorem dX10_total_0 : decode cX10_total 0 = .ok (.iload_n 1, 1) := by decide +kernel
theorem dX10_total_1 : decode cX10_total 1 = .ok (.lookupswitch 43 #[(10, 27), (11, 35)], 27) := by decide +kernel
theorem dX10_total_28 : decode cX10_total 28 = .ok (.aload_n 0, 1) := by decide +kernel
theorem dX10_total_29 : decode cX10_total 29 = .ok (.getfield 29, 3) := by decide +kernel
theorem dX10_total_32 : decode cX10_total 32 = .ok (.getfield 155, 3) := by decide +kernel
theorem dX10_total_35 : decode cX10_total 35 = .ok (.ireturn, 1) := by decide +kernel
theorem dX10_total_36 : decode cX10_total 36 = .ok (.aload_n 0, 1) := by decide +kernel
theorem dX10_total_37 : decode cX10_total 37 = .ok (.getfield 36, 3) := by decide +kernel
theorem dX10_total_40 : decode cX10_total 40 = .ok (.getfield 136, 3) := by decide +kernel
theorem dX10_total_43 : decode cX10_total 43 = .ok (.ireturn, 1) := by decide +kernel
theorem dX10_total_44 : decode cX10_total 44 = .ok (.aload_n 0, 1) := by decide +kernel
theorem dX10_total_45 : decode cX10_total 45 = .ok (.getfield 10, 3) := by decide +kernel
theorem dX10_total_48 : decode cX10_total 48 = .ok (.getfield 58, 3) := by decide +kernel
theorem dX10_total_51 : decode cX10_total 51 = .ok (.iload_n 1, 1) := by decide +kernel
theorem dX10_total_52 : decode cX10_total 52 = .ok (.invokevirtual 196, 3) := by decide +kernel
theorem dX10_total_55 : decode cX10_total 55 = .ok (.ireturn, 1) := by decide +kernel
theorem dX10_ifInserted_0 : decode cX10_ifInserted 0 = .ok (.aload_n 0, 1) := by decide +kernel
theorem dX10_ifInserted_1 : decode cX10_ifInserted 1 = .ok (.getfield 10, 3) := by decide +kernel
theorem dX10_ifInserted_4 : decode cX10_ifInserted 4 = .ok (.iload_n 1, 1) := by decide +kernel
theorem dX10_ifInserted_5 : decode cX10_ifInserted 5 = .ok (.iload_n 2, 1) := by decide +kernel
theorem dX10_ifInserted_6 : decode cX10_ifInserted 6 = .ok (.iload_n 3, 1) := by decide +kernel
theorem dX10_ifInserted_7 : decode cX10_ifInserted 7 = .ok (.iload 4, 2) := by decide +kernel
theorem dX10_ifInserted_9 : decode cX10_ifInserted 9 = .ok (.invokevirtual 197, 3) := by decide +kernel
theorem dX10_ifInserted_12 : decode cX10_ifInserted 12 = .ok (.istore 6, 2) := by decide +kernel
theorem dX10_ifInserted_14 : decode cX10_ifInserted 14 = .ok (.iload 6, 2) := by decide +kernel
theorem dX10_ifInserted_16 : decode cX10_ifInserted 16 = .ok (.ifCond .eq 6, 3) := by decide +kernel
theorem dX10_ifInserted_19 : decode cX10_ifInserted 19 = .ok (.iload 6, 2) := by decide +kernel
theorem dX10_ifInserted_21 : decode cX10_ifInserted 21 = .ok (.ireturn, 1) := by decide +kernel
theorem dX10_ifInserted_22 : decode cX10_ifInserted 22 = .ok (.iload 5, 2) := by decide +kernel
theorem dX10_ifInserted_24 : decode cX10_ifInserted 24 = .ok (.invokestatic 200, 3) := by decide +kernel
theorem dX10_ifInserted_27 : decode cX10_ifInserted 27 = .ok (.ifCond .ne 7, 3) := by decide +kernel
theorem dX10_ifInserted_30 : decode cX10_ifInserted 30 = .ok (.sipush (-1002), 3) := by decide +kernel
theorem dX10_ifInserted_33 : decode cX10_ifInserted 33 = .ok (.ireturn, 1) := by decide +kernel
theorem dX10_ifInserted_34 : decode cX10_ifInserted 34 = .ok (.aload_n 0, 1) := by decide +kernel
theorem dX10_ifInserted_35 : decode cX10_ifInserted 35 = .ok (.getfield 19, 3) := by decide +kernel
theorem dX10_ifInserted_38 : decode cX10_ifInserted 38 = .ok (.aload_n 0, 1) := by decide +kernel
theorem dX10_ifInserted_39 : decode cX10_ifInserted 39 = .ok (.getfield 10, 3) := by decide +kernel
theorem dX10_ifInserted_42 : decode cX10_ifInserted 42 = .ok (.getfield 58, 3) := by decide +kernel
theorem dX10_ifInserted_45 : decode cX10_ifInserted 45 = .ok (.invokevirtual 114, 3) := by decide +kernel
theorem dX10_ifInserted_48 : decode cX10_ifInserted 48 = .ok (.aload_n 0, 1) := by decide +kernel
theorem dX10_ifInserted_49 : decode cX10_ifInserted 49 = .ok (.getfield 10, 3) := by decide +kernel
theorem dX10_ifInserted_52 : decode cX10_ifInserted 52 = .ok (.iload_n 1, 1) := by decide +kernel
theorem dX10_ifInserted_53 : decode cX10_ifInserted 53 = .ok (.iload_n 2, 1) := by decide +kernel
theorem dX10_ifInserted_54 : decode cX10_ifInserted 54 = .ok (.iload_n 3, 1) := by decide +kernel
theorem dX10_ifInserted_55 : decode cX10_ifInserted 55 = .ok (.iload 4, 2) := by decide +kernel
theorem dX10_ifInserted_57 : decode cX10_ifInserted 57 = .ok (.invokevirtual 117, 3) := by decide +kernel
theorem dX10_ifInserted_60 : decode cX10_ifInserted 60 = .ok (.pop, 1) := by decide +kernel
theorem dX10_ifInserted_61 : decode cX10_ifInserted 61 = .ok (.aload_n 0, 1) := by decide +kernel
theorem dX10_ifInserted_62 : decode cX10_ifInserted 62 = .ok (.getfield 10, 3) := by decide +kernel
theorem dX10_ifInserted_65 : decode cX10_ifInserted 65 = .ok (.getfield 58, 3) := by decide +kernel
theorem dX10_ifInserted_68 : decode cX10_ifInserted 68 = .ok (.aload_n 0, 1) := by decide +kernel
theorem dX10_ifInserted_69 : decode cX10_ifInserted 69 = .ok (.getfield 19, 3) := by decide +kernel
theorem dX10_ifInserted_72 : decode cX10_ifInserted 72 = .ok (.invokevirtual 114, 3) := by decide +kernel
theorem dX10_ifInserted_75 : decode cX10_ifInserted 75 = .ok (.aload_n 0, 1) := by decide +kernel
theorem dX10_ifInserted_76 : decode cX10_ifInserted 76 = .ok (.getfield 10, 3) := by decide +kernel
theorem dX10_ifInserted_79 : decode cX10_ifInserted 79 = .ok (.iload 5, 2) := by decide +kernel
theorem dX10_ifInserted_81 : decode cX10_ifInserted 81 = .ok (.invokevirtual 203, 3) := by decide +kernel
theorem dX10_ifInserted_84 : decode cX10_ifInserted 84 = .ok (.ireturn, 1) := by decide +kernel
theorem dX10_ifUpdated_0 : decode cX10_ifUpdated 0 = .ok (.aload_n 0, 1) := by decide +kernel
theorem dX10_ifUpdated_1 : decode cX10_ifUpdated 1 = .ok (.getfield 10, 3) := by decide +kernel
theorem dX10_ifUpdated_4 : decode cX10_ifUpdated 4 = .ok (.iload_n 1, 1) := by decide +kernel
theorem dX10_ifUpdated_5 : decode cX10_ifUpdated 5 = .ok (.iload_n 2, 1) := by decide +kernel
theorem dX10_ifUpdated_6 : decode cX10_ifUpdated 6 = .ok (.iload_n 3, 1) := by decide +kernel
theorem dX10_ifUpdated_7 : decode cX10_ifUpdated 7 = .ok (.invokevirtual 206, 3) := by decide +kernel
theorem dX10_ifUpdated_10 : decode cX10_ifUpdated 10 = .ok (.istore 5, 2) := by decide +kernel
theorem dX10_ifUpdated_12 : decode cX10_ifUpdated 12 = .ok (.iload 5, 2) := by decide +kernel
theorem dX10_ifUpdated_14 : decode cX10_ifUpdated 14 = .ok (.ifCond .eq 14, 3) := by decide +kernel
theorem dX10_ifUpdated_17 : decode cX10_ifUpdated 17 = .ok (.iload 5, 2) := by decide +kernel
theorem dX10_ifUpdated_19 : decode cX10_ifUpdated 19 = .ok (.sipush (-1006), 3) := by decide +kernel
theorem dX10_ifUpdated_22 : decode cX10_ifUpdated 22 = .ok (.if_icmp .eq 6, 3) := by decide +kernel
theorem dX10_ifUpdated_25 : decode cX10_ifUpdated 25 = .ok (.iload 5, 2) := by decide +kernel
theorem dX10_ifUpdated_27 : decode cX10_ifUpdated 27 = .ok (.ireturn, 1) := by decide +kernel
theorem dX10_ifUpdated_28 : decode cX10_ifUpdated 28 = .ok (.iload 4, 2) := by decide +kernel
theorem dX10_ifUpdated_30 : decode cX10_ifUpdated 30 = .ok (.invokestatic 200, 3) := by decide +kernel
theorem dX10_ifUpdated_33 : decode cX10_ifUpdated 33 = .ok (.ifCond .ne 7, 3) := by decide +kernel
theorem dX10_ifUpdated_36 : decode cX10_ifUpdated 36 = .ok (.sipush (-1002), 3) := by decide +kernel
theorem dX10_ifUpdated_39 : decode cX10_ifUpdated 39 = .ok (.ireturn, 1) := by decide +kernel
theorem dX10_ifUpdated_40 : decode cX10_ifUpdated 40 = .ok (.iload 5, 2) := by decide +kernel
theorem dX10_ifUpdated_42 : decode cX10_ifUpdated 42 = .ok (.sipush (-1006), 3) := by decide +kernel
theorem dX10_ifUpdated_45 : decode cX10_ifUpdated 45 = .ok (.if_icmp .ne 7, 3) := by decide +kernel
theorem dX10_ifUpdated_48 : decode cX10_ifUpdated 48 = .ok (.sipush (-1006), 3) := by decide +kernel
theorem dX10_ifUpdated_51 : decode cX10_ifUpdated 51 = .ok (.ireturn, 1) := by decide +kernel
theorem dX10_ifUpdated_52 : decode cX10_ifUpdated 52 = .ok (.aload_n 0, 1) := by decide +kernel
theorem dX10_ifUpdated_53 : decode cX10_ifUpdated 53 = .ok (.getfield 19, 3) := by decide +kernel
theorem dX10_ifUpdated_56 : decode cX10_ifUpdated 56 = .ok (.aload_n 0, 1) := by decide +kernel
theorem dX10_ifUpdated_57 : decode cX10_ifUpdated 57 = .ok (.getfield 10, 3) := by decide +kernel
theorem dX10_ifUpdated_60 : decode cX10_ifUpdated 60 = .ok (.getfield 58, 3) := by decide +kernel
theorem dX10_ifUpdated_63 : decode cX10_ifUpdated 63 = .ok (.invokevirtual 114, 3) := by decide +kernel
theorem dX10_ifUpdated_66 : decode cX10_ifUpdated 66 = .ok (.aload_n 0, 1) := by decide +kernel
theorem dX10_ifUpdated_67 : decode cX10_ifUpdated 67 = .ok (.getfield 10, 3) := by decide +kernel
theorem dX10_ifUpdated_70 : decode cX10_ifUpdated 70 = .ok (.iload_n 1, 1) := by decide +kernel
theorem dX10_ifUpdated_71 : decode cX10_ifUpdated 71 = .ok (.iload_n 2, 1) := by decide +kernel
theorem dX10_ifUpdated_72 : decode cX10_ifUpdated 72 = .ok (.iload_n 3, 1) := by decide +kernel
theorem dX10_ifUpdated_73 : decode cX10_ifUpdated 73 = .ok (.invokevirtual 125, 3) := by decide +kernel
theorem dX10_ifUpdated_76 : decode cX10_ifUpdated 76 = .ok (.pop, 1) := by decide +kernel
theorem dX10_ifUpdated_77 : decode cX10_ifUpdated 77 = .ok (.aload_n 0, 1) := by decide +kernel
theorem dX10_ifUpdated_78 : decode cX10_ifUpdated 78 = .ok (.getfield 10, 3) := by decide +kernel
theorem dX10_ifUpdated_81 : decode cX10_ifUpdated 81 = .ok (.getfield 58, 3) := by decide +kernel
theorem dX10_ifUpdated_84 : decode cX10_ifUpdated 84 = .ok (.aload_n 0, 1) := by decide +kernel
theorem dX10_ifUpdated_85 : decode cX10_ifUpdated 85 = .ok (.getfield 19, 3) := by decide +kernel
theorem dX10_ifUpdated_88 : decode cX10_ifUpdated 88 = .ok (.invokevirtual 114, 3) := by decide +kernel
theorem dX10_ifUpdated_91 : decode cX10_ifUpdated 91 = .ok (.aload_n 0, 1) := by decide +kernel
theorem dX10_ifUpdated_92 : decode cX10_ifUpdated 92 = .ok (.getfield 10, 3) := by decide +kernel
theorem dX10_ifUpdated_95 : decode cX10_ifUpdated 95 = .ok (.iload 4, 2) := by decide +kernel
theorem dX10_ifUpdated_97 : decode cX10_ifUpdated 97 = .ok (.invokevirtual 203, 3) := by decide +kernel
theorem dX10_ifUpdated_100 : decode cX10_ifUpdated 100 = .ok (.ireturn, 1) := by decide +kernel
theorem dX10_ifDeleted_0 : decode cX10_ifDeleted 0 = .ok (.aload_n 0, 1) := by decide +kernel
theorem dX10_ifDeleted_1 : decode cX10_ifDeleted 1 = .ok (.getfield 10, 3) := by decide +kernel
theorem dX10_ifDeleted_4 : decode cX10_ifDeleted 4 = .ok (.iload_n 1, 1) := by decide +kernel
theorem dX10_ifDeleted_5 : decode cX10_ifDeleted 5 = .ok (.invokevirtual 209, 3) := by decide +kernel
theorem dX10_ifDeleted_8 : decode cX10_ifDeleted 8 = .ok (.istore_n 3, 1) := by decide +kernel
theorem dX10_ifDeleted_9 : decode cX10_ifDeleted 9 = .ok (.iload_n 3, 1) := by decide +kernel
theorem dX10_ifDeleted_10 : decode cX10_ifDeleted 10 = .ok (.ifCond .eq 5, 3) := by decide +kernel
theorem dX10_ifDeleted_13 : decode cX10_ifDeleted 13 = .ok (.iload_n 3, 1) := by decide +kernel
theorem dX10_ifDeleted_14 : decode cX10_ifDeleted 14 = .ok (.ireturn, 1) := by decide +kernel
theorem dX10_ifDeleted_15 : decode cX10_ifDeleted 15 = .ok (.iload_n 2, 1) := by decide +kernel
theorem dX10_ifDeleted_16 : decode cX10_ifDeleted 16 = .ok (.invokestatic 200, 3) := by decide +kernel
theorem dX10_ifDeleted_19 : decode cX10_ifDeleted 19 = .ok (.ifCond .ne 7, 3) := by decide +kernel
theorem dX10_ifDeleted_22 : decode cX10_ifDeleted 22 = .ok (.sipush (-1002), 3) := by decide +kernel
theorem dX10_ifDeleted_25 : decode cX10_ifDeleted 25 = .ok (.ireturn, 1) := by decide +kernel
theorem dX10_ifDeleted_26 : decode cX10_ifDeleted 26 = .ok (.aload_n 0, 1) := by decide +kernel
theorem dX10_ifDeleted_27 : decode cX10_ifDeleted 27 = .ok (.getfield 19, 3) := by decide +kernel
theorem dX10_ifDeleted_30 : decode cX10_ifDeleted 30 = .ok (.aload_n 0, 1) := by decide +kernel
theorem dX10_ifDeleted_31 : decode cX10_ifDeleted 31 = .ok (.getfield 10, 3) := by decide +kernel
theorem dX10_ifDeleted_34 : decode cX10_ifDeleted 34 = .ok (.getfield 58, 3) := by decide +kernel
theorem dX10_ifDeleted_37 : decode cX10_ifDeleted 37 = .ok (.invokevirtual 114, 3) := by decide +kernel
theorem dX10_ifDeleted_40 : decode cX10_ifDeleted 40 = .ok (.aload_n 0, 1) := by decide +kernel
theorem dX10_ifDeleted_41 : decode cX10_ifDeleted 41 = .ok (.getfield 10, 3) := by decide +kernel
theorem dX10_ifDeleted_44 : decode cX10_ifDeleted 44 = .ok (.iload_n 1, 1) := by decide +kernel
theorem dX10_ifDeleted_45 : decode cX10_ifDeleted 45 = .ok (.invokevirtual 129, 3) := by decide +kernel
theorem dX10_ifDeleted_48 : decode cX10_ifDeleted 48 = .ok (.pop, 1) := by decide +kernel
theorem dX10_ifDeleted_49 : decode cX10_ifDeleted 49 = .ok (.aload_n 0, 1) := by decide +kernel
theorem dX10_ifDeleted_50 : decode cX10_ifDeleted 50 = .ok (.getfield 10, 3) := by decide +kernel
theorem dX10_ifDeleted_53 : decode cX10_ifDeleted 53 = .ok (.getfield 58, 3) := by decide +kernel
theorem dX10_ifDeleted_56 : decode cX10_ifDeleted 56 = .ok (.aload_n 0, 1) := by decide +kernel
theorem dX10_ifDeleted_57 : decode cX10_ifDeleted 57 = .ok (.getfield 19, 3) := by decide +kernel
theorem dX10_ifDeleted_60 : decode cX10_ifDeleted 60 = .ok (.invokevirtual 114, 3) := by decide +kernel
theorem dX10_ifDeleted_63 : decode cX10_ifDeleted 63 = .ok (.aload_n 0, 1) := by decide +kernel
theorem dX10_ifDeleted_64 : decode cX10_ifDeleted 64 = .ok (.getfield 10, 3) := by decide +kernel
theorem dX10_ifDeleted_67 : decode cX10_ifDeleted 67 = .ok (.iload_n 2, 1) := by decide +kernel
theorem dX10_ifDeleted_68 : decode cX10_ifDeleted 68 = .ok (.invokevirtual 203, 3) := by decide +kernel
theorem dX10_ifDeleted_71 : decode cX10_ifDeleted 71 = .ok (.ireturn, 1) := by decide +kernel
theorem dX10_depthFor_0 : decode cX10_depthFor 0 = .ok (.aload_n 0, 1) := by decide +kernel
theorem dX10_depthFor_1 : decode cX10_depthFor 1 = .ok (.getfield 10, 3) := by decide +kernel
theorem dX10_depthFor_4 : decode cX10_depthFor 4 = .ok (.iload_n 1, 1) := by decide +kernel
theorem dX10_depthFor_5 : decode cX10_depthFor 5 = .ok (.iload_n 2, 1) := by decide +kernel
theorem dX10_depthFor_6 : decode cX10_depthFor 6 = .ok (.iload_n 3, 1) := by decide +kernel
theorem dX10_depthFor_7 : decode cX10_depthFor 7 = .ok (.invokevirtual 206, 3) := by decide +kernel
theorem dX10_depthFor_10 : decode cX10_depthFor 10 = .ok (.istore 4, 2) := by decide +kernel
theorem dX10_depthFor_12 : decode cX10_depthFor 12 = .ok (.iload 4, 2) := by decide +kernel
theorem dX10_depthFor_14 : decode cX10_depthFor 14 = .ok (.ifCond .eq 6, 3) := by decide +kernel
theorem dX10_depthFor_17 : decode cX10_depthFor 17 = .ok (.iload 4, 2) := by decide +kernel
theorem dX10_depthFor_19 : decode cX10_depthFor 19 = .ok (.ireturn, 1) := by decide +kernel
theorem dX10_depthFor_20 : decode cX10_depthFor 20 = .ok (.aload_n 0, 1) := by decide +kernel
theorem dX10_depthFor_21 : decode cX10_depthFor 21 = .ok (.getfield 19, 3) := by decide +kernel
theorem dX10_depthFor_24 : decode cX10_depthFor 24 = .ok (.aload_n 0, 1) := by decide +kernel
theorem dX10_depthFor_25 : decode cX10_depthFor 25 = .ok (.getfield 10, 3) := by decide +kernel
theorem dX10_depthFor_28 : decode cX10_depthFor 28 = .ok (.getfield 58, 3) := by decide +kernel
theorem dX10_depthFor_31 : decode cX10_depthFor 31 = .ok (.invokevirtual 114, 3) := by decide +kernel
theorem dX10_depthFor_34 : decode cX10_depthFor 34 = .ok (.iconst 1, 1) := by decide +kernel
theorem dX10_depthFor_35 : decode cX10_depthFor 35 = .ok (.istore 5, 2) := by decide +kernel
theorem dX10_depthFor_37 : decode cX10_depthFor 37 = .ok (.iload 5, 2) := by decide +kernel
theorem dX10_depthFor_39 : decode cX10_depthFor 39 = .ok (.bipush 8, 2) := by decide +kernel
theorem dX10_depthFor_41 : decode cX10_depthFor 41 = .ok (.if_icmp .gt 58, 3) := by decide +kernel
theorem dX10_depthFor_44 : decode cX10_depthFor 44 = .ok (.aload_n 0, 1) := by decide +kernel
theorem dX10_depthFor_45 : decode cX10_depthFor 45 = .ok (.getfield 10, 3) := by decide +kernel
theorem dX10_depthFor_48 : decode cX10_depthFor 48 = .ok (.getfield 58, 3) := by decide +kernel
theorem dX10_depthFor_51 : decode cX10_depthFor 51 = .ok (.iload 5, 2) := by decide +kernel
theorem dX10_depthFor_53 : decode cX10_depthFor 53 = .ok (.putfield 108, 3) := by decide +kernel
theorem dX10_depthFor_56 : decode cX10_depthFor 56 = .ok (.aload_n 0, 1) := by decide +kernel
theorem dX10_depthFor_57 : decode cX10_depthFor 57 = .ok (.getfield 10, 3) := by decide +kernel
theorem dX10_depthFor_60 : decode cX10_depthFor 60 = .ok (.iload_n 1, 1) := by decide +kernel
theorem dX10_depthFor_61 : decode cX10_depthFor 61 = .ok (.iload_n 2, 1) := by decide +kernel
theorem dX10_depthFor_62 : decode cX10_depthFor 62 = .ok (.iload_n 3, 1) := by decide +kernel
theorem dX10_depthFor_63 : decode cX10_depthFor 63 = .ok (.invokevirtual 125, 3) := by decide +kernel
theorem dX10_depthFor_66 : decode cX10_depthFor 66 = .ok (.istore 6, 2) := by decide +kernel
theorem dX10_depthFor_68 : decode cX10_depthFor 68 = .ok (.aload_n 0, 1) := by decide +kernel
theorem dX10_depthFor_69 : decode cX10_depthFor 69 = .ok (.getfield 10, 3) := by decide +kernel
theorem dX10_depthFor_72 : decode cX10_depthFor 72 = .ok (.getfield 58, 3) := by decide +kernel
theorem dX10_depthFor_75 : decode cX10_depthFor 75 = .ok (.aload_n 0, 1) := by decide +kernel
theorem dX10_depthFor_76 : decode cX10_depthFor 76 = .ok (.getfield 19, 3) := by decide +kernel
theorem dX10_depthFor_79 : decode cX10_depthFor 79 = .ok (.invokevirtual 114, 3) := by decide +kernel
theorem dX10_depthFor_82 : decode cX10_depthFor 82 = .ok (.iload 6, 2) := by decide +kernel
theorem dX10_depthFor_84 : decode cX10_depthFor 84 = .ok (.sipush (-1005), 3) := by decide +kernel
theorem dX10_depthFor_87 : decode cX10_depthFor 87 = .ok (.if_icmp .eq 6, 3) := by decide +kernel
theorem dX10_depthFor_90 : decode cX10_depthFor 90 = .ok (.iload 5, 2) := by decide +kernel
theorem dX10_depthFor_92 : decode cX10_depthFor 92 = .ok (.ireturn, 1) := by decide +kernel
theorem dX10_depthFor_93 : decode cX10_depthFor 93 = .ok (.iinc 5 1, 3) := by decide +kernel
theorem dX10_depthFor_96 : decode cX10_depthFor 96 = .ok (.goto (-59), 3) := by decide +kernel
theorem dX10_depthFor_99 : decode cX10_depthFor 99 = .ok (.sipush (-1006), 3) := by decide +kernel
theorem dX10_depthFor_102 : decode cX10_depthFor 102 = .ok (.ireturn, 1) := by decide +kernel
theorem dX10_settle_0 : decode cX10_settle 0 = .ok (.iload_n 1, 1) := by decide +kernel
theorem dX10_settle_1 : decode cX10_settle 1 = .ok (.ifCond .ge 20, 3) := by decide +kernel
theorem dX10_settle_4 : decode cX10_settle 4 = .ok (.aload_n 0, 1) := by decide +kernel
theorem dX10_settle_5 : decode cX10_settle 5 = .ok (.getfield 10, 3) := by decide +kernel
theorem dX10_settle_8 : decode cX10_settle 8 = .ok (.getfield 58, 3) := by decide +kernel
theorem dX10_settle_11 : decode cX10_settle 11 = .ok (.aload_n 0, 1) := by decide +kernel
theorem dX10_settle_12 : decode cX10_settle 12 = .ok (.getfield 19, 3) := by decide +kernel
theorem dX10_settle_15 : decode cX10_settle 15 = .ok (.invokevirtual 114, 3) := by decide +kernel
theorem dX10_settle_18 : decode cX10_settle 18 = .ok (.goto 14, 3) := by decide +kernel
theorem dX10_settle_21 : decode cX10_settle 21 = .ok (.aload_n 0, 1) := by decide +kernel
theorem dX10_settle_22 : decode cX10_settle 22 = .ok (.getfield 29, 3) := by decide +kernel
theorem dX10_settle_25 : decode cX10_settle 25 = .ok (.aload_n 0, 1) := by decide +kernel
theorem dX10_settle_26 : decode cX10_settle 26 = .ok (.getfield 19, 3) := by decide +kernel
theorem dX10_settle_29 : decode cX10_settle 29 = .ok (.invokevirtual 71, 3) := by decide +kernel
theorem dX10_settle_32 : decode cX10_settle 32 = .ok (.iload_n 1, 1) := by decide +kernel
theorem dX10_settle_33 : decode cX10_settle 33 = .ok (.ireturn, 1) := by decide +kernel
theorem dX10_performStatement_0 : decode cX10_performStatement 0 = .ok (.aload_n 0, 1) := by decide +kernel
theorem dX10_performStatement_1 : decode cX10_performStatement 1 = .ok (.getfield 36, 3) := by decide +kernel
theorem dX10_performStatement_4 : decode cX10_performStatement 4 = .ok (.getfield 212, 3) := by decide +kernel
theorem dX10_performStatement_7 : decode cX10_performStatement 7 = .ok (.lookupswitch 90 #[(0, 25), (1, 61)], 25) := by decide +kernel
theorem dX10_performStatement_32 : decode cX10_performStatement 32 = .ok (.aload_n 0, 1) := by decide +kernel
theorem dX10_performStatement_33 : decode cX10_performStatement 33 = .ok (.getfield 10, 3) := by decide +kernel
theorem dX10_performStatement_36 : decode cX10_performStatement 36 = .ok (.aload_n 0, 1) := by decide +kernel
theorem dX10_performStatement_37 : decode cX10_performStatement 37 = .ok (.getfield 36, 3) := by decide +kernel
theorem dX10_performStatement_40 : decode cX10_performStatement 40 = .ok (.getfield 215, 3) := by decide +kernel
theorem dX10_performStatement_43 : decode cX10_performStatement 43 = .ok (.aload_n 0, 1) := by decide +kernel
theorem dX10_performStatement_44 : decode cX10_performStatement 44 = .ok (.getfield 36, 3) := by decide +kernel
theorem dX10_performStatement_47 : decode cX10_performStatement 47 = .ok (.getfield 216, 3) := by decide +kernel
theorem dX10_performStatement_50 : decode cX10_performStatement 50 = .ok (.aload_n 0, 1) := by decide +kernel
theorem dX10_performStatement_51 : decode cX10_performStatement 51 = .ok (.getfield 36, 3) := by decide +kernel
theorem dX10_performStatement_54 : decode cX10_performStatement 54 = .ok (.getfield 219, 3) := by decide +kernel
theorem dX10_performStatement_57 : decode cX10_performStatement 57 = .ok (.aload_n 0, 1) := by decide +kernel
theorem dX10_performStatement_58 : decode cX10_performStatement 58 = .ok (.getfield 36, 3) := by decide +kernel
theorem dX10_performStatement_61 : decode cX10_performStatement 61 = .ok (.getfield 222, 3) := by decide +kernel
theorem dX10_performStatement_64 : decode cX10_performStatement 64 = .ok (.invokevirtual 117, 3) := by decide +kernel
theorem dX10_performStatement_67 : decode cX10_performStatement 67 = .ok (.ireturn, 1) := by decide +kernel
theorem dX10_performStatement_68 : decode cX10_performStatement 68 = .ok (.aload_n 0, 1) := by decide +kernel
theorem dX10_performStatement_69 : decode cX10_performStatement 69 = .ok (.getfield 10, 3) := by decide +kernel
theorem dX10_performStatement_72 : decode cX10_performStatement 72 = .ok (.aload_n 0, 1) := by decide +kernel
theorem dX10_performStatement_73 : decode cX10_performStatement 73 = .ok (.getfield 36, 3) := by decide +kernel
theorem dX10_performStatement_76 : decode cX10_performStatement 76 = .ok (.getfield 215, 3) := by decide +kernel
theorem dX10_performStatement_79 : decode cX10_performStatement 79 = .ok (.aload_n 0, 1) := by decide +kernel
theorem dX10_performStatement_80 : decode cX10_performStatement 80 = .ok (.getfield 36, 3) := by decide +kernel
theorem dX10_performStatement_83 : decode cX10_performStatement 83 = .ok (.getfield 225, 3) := by decide +kernel
theorem dX10_performStatement_86 : decode cX10_performStatement 86 = .ok (.aload_n 0, 1) := by decide +kernel
theorem dX10_performStatement_87 : decode cX10_performStatement 87 = .ok (.getfield 36, 3) := by decide +kernel
theorem dX10_performStatement_90 : decode cX10_performStatement 90 = .ok (.getfield 216, 3) := by decide +kernel
theorem dX10_performStatement_93 : decode cX10_performStatement 93 = .ok (.invokevirtual 125, 3) := by decide +kernel
theorem dX10_performStatement_96 : decode cX10_performStatement 96 = .ok (.ireturn, 1) := by decide +kernel
theorem dX10_performStatement_97 : decode cX10_performStatement 97 = .ok (.aload_n 0, 1) := by decide +kernel
theorem dX10_performStatement_98 : decode cX10_performStatement 98 = .ok (.getfield 10, 3) := by decide +kernel
theorem dX10_performStatement_101 : decode cX10_performStatement 101 = .ok (.aload_n 0, 1) := by decide +kernel
theorem dX10_performStatement_102 : decode cX10_performStatement 102 = .ok (.getfield 36, 3) := by decide +kernel
theorem dX10_performStatement_105 : decode cX10_performStatement 105 = .ok (.getfield 215, 3) := by decide +kernel
theorem dX10_performStatement_108 : decode cX10_performStatement 108 = .ok (.invokevirtual 129, 3) := by decide +kernel
theorem dX10_performStatement_111 : decode cX10_performStatement 111 = .ok (.ireturn, 1) := by decide +kernel
theorem dX10_isReport_0 : decode cX10_isReport 0 = .ok (.iload_n 0, 1) := by decide +kernel
theorem dX10_isReport_1 : decode cX10_isReport 1 = .ok (.iconst 0, 1) := by decide +kernel
theorem dX10_isReport_2 : decode cX10_isReport 2 = .ok (.iconst 4, 1) := by decide +kernel
theorem dX10_isReport_3 : decode cX10_isReport 3 = .ok (.invokestatic 47, 3) := by decide +kernel
theorem dX10_isReport_6 : decode cX10_isReport 6 = .ok (.ireturn, 1) := by decide +kernel
theorem dX10_isEvent_0 : decode cX10_isEvent 0 = .ok (.iload_n 0, 1) := by decide +kernel
theorem dX10_isEvent_1 : decode cX10_isEvent 1 = .ok (.iconst 0, 1) := by decide +kernel
theorem dX10_isEvent_2 : decode cX10_isEvent 2 = .ok (.iconst 2, 1) := by decide +kernel
theorem dX10_isEvent_3 : decode cX10_isEvent 3 = .ok (.invokestatic 47, 3) := by decide +kernel
theorem dX10_isEvent_6 : decode cX10_isEvent 6 = .ok (.ireturn, 1) := by decide +kernel
theorem dX10_isMoment_0 : decode cX10_isMoment 0 = .ok (.iload_n 0, 1) := by decide +kernel
theorem dX10_isMoment_1 : decode cX10_isMoment 1 = .ok (.iconst 0, 1) := by decide +kernel
theorem dX10_isMoment_2 : decode cX10_isMoment 2 = .ok (.iconst 1, 1) := by decide +kernel
theorem dX10_isMoment_3 : decode cX10_isMoment 3 = .ok (.invokestatic 47, 3) := by decide +kernel
theorem dX10_isMoment_6 : decode cX10_isMoment 6 = .ok (.ireturn, 1) := by decide +kernel
theorem dX10_isKindFor_0 : decode cX10_isKindFor 0 = .ok (.iload_n 0, 1) := by decide +kernel
theorem dX10_isKindFor_1 : decode cX10_isKindFor 1 = .ok (.ifCond .ne 10, 3) := by decide +kernel
theorem dX10_isKindFor_4 : decode cX10_isKindFor 4 = .ok (.iload_n 1, 1) := by decide +kernel
theorem dX10_isKindFor_5 : decode cX10_isKindFor 5 = .ok (.iconst 0, 1) := by decide +kernel
theorem dX10_isKindFor_6 : decode cX10_isKindFor 6 = .ok (.iconst 2, 1) := by decide +kernel
theorem dX10_isKindFor_7 : decode cX10_isKindFor 7 = .ok (.invokestatic 47, 3) := by decide +kernel
theorem dX10_isKindFor_10 : decode cX10_isKindFor 10 = .ok (.ireturn, 1) := by decide +kernel
theorem dX10_isKindFor_11 : decode cX10_isKindFor 11 = .ok (.iload_n 1, 1) := by decide +kernel
theorem dX10_isKindFor_12 : decode cX10_isKindFor 12 = .ok (.iconst 1, 1) := by decide +kernel
theorem dX10_isKindFor_13 : decode cX10_isKindFor 13 = .ok (.if_icmp .eq 12, 3) := by decide +kernel
theorem dX10_isKindFor_16 : decode cX10_isKindFor 16 = .ok (.iload_n 1, 1) := by decide +kernel
theorem dX10_isKindFor_17 : decode cX10_isKindFor 17 = .ok (.iconst 3, 1) := by decide +kernel
theorem dX10_isKindFor_18 : decode cX10_isKindFor 18 = .ok (.iconst 5, 1) := by decide +kernel
theorem dX10_isKindFor_19 : decode cX10_isKindFor 19 = .ok (.invokestatic 47, 3) := by decide +kernel
theorem dX10_isKindFor_22 : decode cX10_isKindFor 22 = .ok (.ifCond .eq 7, 3) := by decide +kernel
theorem dX10_isKindFor_25 : decode cX10_isKindFor 25 = .ok (.iconst 1, 1) := by decide +kernel
theorem dX10_isKindFor_26 : decode cX10_isKindFor 26 = .ok (.goto 4, 3) := by decide +kernel
theorem dX10_isKindFor_29 : decode cX10_isKindFor 29 = .ok (.iconst 0, 1) := by decide +kernel
theorem dX10_isKindFor_30 : decode cX10_isKindFor 30 = .ok (.ireturn, 1) := by decide +kernel
theorem dX10_isValue_0 : decode cX10_isValue 0 = .ok (.iload_n 0, 1) := by decide +kernel
theorem dX10_isValue_1 : decode cX10_isValue 1 = .ok (.sipush (-999), 3) := by decide +kernel
theorem dX10_isValue_4 : decode cX10_isValue 4 = .ok (.sipush 999, 3) := by decide +kernel
theorem dX10_isValue_7 : decode cX10_isValue 7 = .ok (.invokestatic 47, 3) := by decide +kernel
theorem dX10_isValue_10 : decode cX10_isValue 10 = .ok (.ireturn, 1) := by decide +kernel
theorem dX10_within_0 : decode cX10_within 0 = .ok (.iload_n 0, 1) := by decide +kernel
theorem dX10_within_1 : decode cX10_within 1 = .ok (.iload_n 1, 1) := by decide +kernel
theorem dX10_within_2 : decode cX10_within 2 = .ok (.if_icmp .lt 12, 3) := by decide +kernel
theorem dX10_within_5 : decode cX10_within 5 = .ok (.iload_n 0, 1) := by decide +kernel
theorem dX10_within_6 : decode cX10_within 6 = .ok (.iload_n 2, 1) := by decide +kernel
theorem dX10_within_7 : decode cX10_within 7 = .ok (.if_icmp .gt 7, 3) := by decide +kernel
theorem dX10_within_10 : decode cX10_within 10 = .ok (.iconst 1, 1) := by decide +kernel
theorem dX10_within_11 : decode cX10_within 11 = .ok (.goto 4, 3) := by decide +kernel
theorem dX10_within_14 : decode cX10_within 14 = .ok (.iconst 0, 1) := by decide +kernel
theorem dX10_within_15 : decode cX10_within 15 = .ok (.ireturn, 1) := by decide +kernel
theorem dX11_init_0 : decode cX11_init 0 = .ok (.aload_n 0, 1) := by decide +kernel
theorem dX11_init_1 : decode cX11_init 1 = .ok (.invokespecial 1, 3) := by decide +kernel
theorem dX11_init_4 : decode cX11_init 4 = .ok (.aload_n 0, 1) := by decide +kernel
theorem dX11_init_5 : decode cX11_init 5 = .ok (.sipush 826, 3) := by decide +kernel
theorem dX11_init_8 : decode cX11_init 8 = .ok (.newarray .int, 2) := by decide +kernel
theorem dX11_init_10 : decode cX11_init 10 = .ok (.putfield 7, 3) := by decide +kernel
theorem dX11_init_13 : decode cX11_init 13 = .ok (.aload_n 0, 1) := by decide +kernel
theorem dX11_init_14 : decode cX11_init 14 = .ok (.sipush 1652, 3) := by decide +kernel
theorem dX11_init_17 : decode cX11_init 17 = .ok (.newarray .int, 2) := by decide +kernel
theorem dX11_init_19 : decode cX11_init 19 = .ok (.putfield 13, 3) := by decide +kernel
theorem dX11_init_22 : decode cX11_init 22 = .ok (.aload_n 0, 1) := by decide +kernel
theorem dX11_init_23 : decode cX11_init 23 = .ok (.sipush 413, 3) := by decide +kernel
theorem dX11_init_26 : decode cX11_init 26 = .ok (.newarray .int, 2) := by decide +kernel
theorem dX11_init_28 : decode cX11_init 28 = .ok (.putfield 16, 3) := by decide +kernel
theorem dX11_init_31 : decode cX11_init 31 = .ok (.aload_n 0, 1) := by decide +kernel
theorem dX11_init_32 : decode cX11_init 32 = .ok (.bipush 80, 2) := by decide +kernel
theorem dX11_init_34 : decode cX11_init 34 = .ok (.newarray .int, 2) := by decide +kernel
theorem dX11_init_36 : decode cX11_init 36 = .ok (.putfield 19, 3) := by decide +kernel
theorem dX11_init_39 : decode cX11_init 39 = .ok (.aload_n 0, 1) := by decide +kernel
theorem dX11_init_40 : decode cX11_init 40 = .ok (.bipush 72, 2) := by decide +kernel
theorem dX11_init_42 : decode cX11_init 42 = .ok (.newarray .int, 2) := by decide +kernel
theorem dX11_init_44 : decode cX11_init 44 = .ok (.putfield 22, 3) := by decide +kernel
theorem dX11_init_47 : decode cX11_init 47 = .ok (.aload_n 0, 1) := by decide +kernel
theorem dX11_init_48 : decode cX11_init 48 = .ok (.getfield 7, 3) := by decide +kernel
theorem dX11_init_51 : decode cX11_init 51 = .ok (.sipush 226, 3) := by decide +kernel
theorem dX11_init_54 : decode cX11_init 54 = .ok (.iconst 4, 1) := by decide +kernel
theorem dX11_init_55 : decode cX11_init 55 = .ok (.iastore, 1) := by decide +kernel
theorem dX11_init_56 : decode cX11_init 56 = .ok (.return_, 1) := by decide +kernel
theorem dX11_in_0 : decode cX11_in 0 = .ok (.iload_n 0, 1) := by decide +kernel
theorem dX11_in_1 : decode cX11_in 1 = .ok (.iload_n 1, 1) := by decide +kernel
theorem dX11_in_2 : decode cX11_in 2 = .ok (.if_icmp .lt 12, 3) := by decide +kernel
theorem dX11_in_5 : decode cX11_in 5 = .ok (.iload_n 0, 1) := by decide +kernel
theorem dX11_in_6 : decode cX11_in 6 = .ok (.iload_n 2, 1) := by decide +kernel
theorem dX11_in_7 : decode cX11_in 7 = .ok (.if_icmp .gt 7, 3) := by decide +kernel
theorem dX11_in_10 : decode cX11_in 10 = .ok (.iconst 1, 1) := by decide +kernel
theorem dX11_in_11 : decode cX11_in 11 = .ok (.goto 4, 3) := by decide +kernel
theorem dX11_in_14 : decode cX11_in 14 = .ok (.iconst 0, 1) := by decide +kernel
theorem dX11_in_15 : decode cX11_in 15 = .ok (.ireturn, 1) := by decide +kernel
theorem dX11_isKey_0 : decode cX11_isKey 0 = .ok (.iload_n 0, 1) := by decide +kernel
theorem dX11_isKey_1 : decode cX11_isKey 1 = .ok (.iconst 0, 1) := by decide +kernel
theorem dX11_isKey_2 : decode cX11_isKey 2 = .ok (.bipush 99, 2) := by decide +kernel
theorem dX11_isKey_4 : decode cX11_isKey 4 = .ok (.invokestatic 25, 3) := by decide +kernel
theorem dX11_isKey_7 : decode cX11_isKey 7 = .ok (.ireturn, 1) := by decide +kernel
theorem dX11_isValue_0 : decode cX11_isValue 0 = .ok (.iload_n 0, 1) := by decide +kernel
theorem dX11_isValue_1 : decode cX11_isValue 1 = .ok (.sipush (-999), 3) := by decide +kernel
theorem dX11_isValue_4 : decode cX11_isValue 4 = .ok (.sipush 999, 3) := by decide +kernel
theorem dX11_isValue_7 : decode cX11_isValue 7 = .ok (.invokestatic 25, 3) := by decide +kernel
theorem dX11_isValue_10 : decode cX11_isValue 10 = .ok (.ireturn, 1) := by decide +kernel
theorem dX11_isRule_0 : decode cX11_isRule 0 = .ok (.iload_n 1, 1) := by decide +kernel
theorem dX11_isRule_1 : decode cX11_isRule 1 = .ok (.iconst 0, 1) := by decide +kernel
theorem dX11_isRule_2 : decode cX11_isRule 2 = .ok (.aload_n 0, 1) := by decide +kernel
theorem dX11_isRule_3 : decode cX11_isRule 3 = .ok (.getfield 7, 3) := by decide +kernel
theorem dX11_isRule_6 : decode cX11_isRule 6 = .ok (.bipush 81, 2) := by decide +kernel
theorem dX11_isRule_8 : decode cX11_isRule 8 = .ok (.iaload, 1) := by decide +kernel
theorem dX11_isRule_9 : decode cX11_isRule 9 = .ok (.iconst 1, 1) := by decide +kernel
theorem dX11_isRule_10 : decode cX11_isRule 10 = .ok (.isub, 1) := by decide +kernel
theorem dX11_isRule_11 : decode cX11_isRule 11 = .ok (.invokestatic 25, 3) := by decide +kernel
theorem dX11_isRule_14 : decode cX11_isRule 14 = .ok (.ireturn, 1) := by decide +kernel
theorem dX11_copies_0 : decode cX11_copies 0 = .ok (.iconst 0, 1) := by decide +kernel
theorem dX11_copies_1 : decode cX11_copies 1 = .ok (.istore_n 3, 1) := by decide +kernel
theorem dX11_copies_2 : decode cX11_copies 2 = .ok (.iload_n 3, 1) := by decide +kernel
theorem dX11_copies_3 : decode cX11_copies 3 = .ok (.sipush 413, 3) := by decide +kernel
theorem dX11_copies_6 : decode cX11_copies 6 = .ok (.if_icmp .ge 25, 3) := by decide +kernel
theorem dX11_copies_9 : decode cX11_copies 9 = .ok (.aload_n 0, 1) := by decide +kernel
theorem dX11_copies_10 : decode cX11_copies 10 = .ok (.getfield 7, 3) := by decide +kernel
theorem dX11_copies_13 : decode cX11_copies 13 = .ok (.iload_n 2, 1) := by decide +kernel
theorem dX11_copies_14 : decode cX11_copies 14 = .ok (.iload_n 3, 1) := by decide +kernel
theorem dX11_copies_15 : decode cX11_copies 15 = .ok (.iadd, 1) := by decide +kernel
theorem dX11_copies_16 : decode cX11_copies 16 = .ok (.aload_n 0, 1) := by decide +kernel
theorem dX11_copies_17 : decode cX11_copies 17 = .ok (.getfield 7, 3) := by decide +kernel
theorem dX11_copies_20 : decode cX11_copies 20 = .ok (.iload_n 1, 1) := by decide +kernel
theorem dX11_copies_21 : decode cX11_copies 21 = .ok (.iload_n 3, 1) := by decide +kernel
theorem dX11_copies_22 : decode cX11_copies 22 = .ok (.iadd, 1) := by decide +kernel
theorem dX11_copies_23 : decode cX11_copies 23 = .ok (.iaload, 1) := by decide +kernel
theorem dX11_copies_24 : decode cX11_copies 24 = .ok (.iastore, 1) := by decide +kernel
theorem dX11_copies_25 : decode cX11_copies 25 = .ok (.iinc 3 1, 3) := by decide +kernel
theorem dX11_copies_28 : decode cX11_copies 28 = .ok (.goto (-26), 3) := by decide +kernel
theorem dX11_copies_31 : decode cX11_copies 31 = .ok (.return_, 1) := by decide +kernel
theorem dX11_remembers_0 : decode cX11_remembers 0 = .ok (.aload_n 0, 1) := by decide +kernel
theorem dX11_remembers_1 : decode cX11_remembers 1 = .ok (.getfield 29, 3) := by decide +kernel
theorem dX11_remembers_4 : decode cX11_remembers 4 = .ok (.iconst 4, 1) := by decide +kernel
theorem dX11_remembers_5 : decode cX11_remembers 5 = .ok (.if_icmp .ne 44, 3) := by decide +kernel
theorem dX11_remembers_8 : decode cX11_remembers 8 = .ok (.iconst 0, 1) := by decide +kernel
theorem dX11_remembers_9 : decode cX11_remembers 9 = .ok (.istore_n 1, 1) := by decide +kernel
theorem dX11_remembers_10 : decode cX11_remembers 10 = .ok (.iload_n 1, 1) := by decide +kernel
theorem dX11_remembers_11 : decode cX11_remembers 11 = .ok (.sipush 1239, 3) := by decide +kernel
theorem dX11_remembers_14 : decode cX11_remembers 14 = .ok (.if_icmp .ge 25, 3) := by decide +kernel
theorem dX11_remembers_17 : decode cX11_remembers 17 = .ok (.aload_n 0, 1) := by decide +kernel
theorem dX11_remembers_18 : decode cX11_remembers 18 = .ok (.getfield 13, 3) := by decide +kernel
theorem dX11_remembers_21 : decode cX11_remembers 21 = .ok (.iload_n 1, 1) := by decide +kernel
theorem dX11_remembers_22 : decode cX11_remembers 22 = .ok (.aload_n 0, 1) := by decide +kernel
theorem dX11_remembers_23 : decode cX11_remembers 23 = .ok (.getfield 13, 3) := by decide +kernel
theorem dX11_remembers_26 : decode cX11_remembers 26 = .ok (.sipush 413, 3) := by decide +kernel
theorem dX11_remembers_29 : decode cX11_remembers 29 = .ok (.iload_n 1, 1) := by decide +kernel
theorem dX11_remembers_30 : decode cX11_remembers 30 = .ok (.iadd, 1) := by decide +kernel
theorem dX11_remembers_31 : decode cX11_remembers 31 = .ok (.iaload, 1) := by decide +kernel
theorem dX11_remembers_32 : decode cX11_remembers 32 = .ok (.iastore, 1) := by decide +kernel
theorem dX11_remembers_33 : decode cX11_remembers 33 = .ok (.iinc 1 1, 3) := by decide +kernel
theorem dX11_remembers_36 : decode cX11_remembers 36 = .ok (.goto (-26), 3) := by decide +kernel
theorem dX11_remembers_39 : decode cX11_remembers 39 = .ok (.aload_n 0, 1) := by decide +kernel
theorem dX11_remembers_40 : decode cX11_remembers 40 = .ok (.dup, 1) := by decide +kernel
theorem dX11_remembers_41 : decode cX11_remembers 41 = .ok (.getfield 29, 3) := by decide +kernel
theorem dX11_remembers_44 : decode cX11_remembers 44 = .ok (.iconst 1, 1) := by decide +kernel
theorem dX11_remembers_45 : decode cX11_remembers 45 = .ok (.isub, 1) := by decide +kernel
theorem dX11_remembers_46 : decode cX11_remembers 46 = .ok (.putfield 29, 3) := by decide +kernel
theorem dX11_remembers_49 : decode cX11_remembers 49 = .ok (.iconst 0, 1) := by decide +kernel
theorem dX11_remembers_50 : decode cX11_remembers 50 = .ok (.istore_n 1, 1) := by decide +kernel
theorem dX11_remembers_51 : decode cX11_remembers 51 = .ok (.iload_n 1, 1) := by decide +kernel
theorem dX11_remembers_52 : decode cX11_remembers 52 = .ok (.sipush 413, 3) := by decide +kernel
theorem dX11_remembers_55 : decode cX11_remembers 55 = .ok (.if_icmp .ge 30, 3) := by decide +kernel
theorem dX11_remembers_58 : decode cX11_remembers 58 = .ok (.aload_n 0, 1) := by decide +kernel
theorem dX11_remembers_59 : decode cX11_remembers 59 = .ok (.getfield 13, 3) := by decide +kernel
theorem dX11_remembers_62 : decode cX11_remembers 62 = .ok (.sipush 413, 3) := by decide +kernel
theorem dX11_remembers_65 : decode cX11_remembers 65 = .ok (.aload_n 0, 1) := by decide +kernel
theorem dX11_remembers_66 : decode cX11_remembers 66 = .ok (.getfield 29, 3) := by decide +kernel
theorem dX11_remembers_69 : decode cX11_remembers 69 = .ok (.imul, 1) := by decide +kernel
theorem dX11_remembers_70 : decode cX11_remembers 70 = .ok (.iload_n 1, 1) := by decide +kernel
theorem dX11_remembers_71 : decode cX11_remembers 71 = .ok (.iadd, 1) := by decide +kernel
theorem dX11_remembers_72 : decode cX11_remembers 72 = .ok (.aload_n 0, 1) := by decide +kernel
theorem dX11_remembers_73 : decode cX11_remembers 73 = .ok (.getfield 7, 3) := by decide +kernel
theorem dX11_remembers_76 : decode cX11_remembers 76 = .ok (.iload_n 1, 1) := by decide +kernel
theorem dX11_remembers_77 : decode cX11_remembers 77 = .ok (.iaload, 1) := by decide +kernel
theorem dX11_remembers_78 : decode cX11_remembers 78 = .ok (.iastore, 1) := by decide +kernel
theorem dX11_remembers_79 : decode cX11_remembers 79 = .ok (.iinc 1 1, 3) := by decide +kernel
theorem dX11_remembers_82 : decode cX11_remembers 82 = .ok (.goto (-31), 3) := by decide +kernel
theorem dX11_remembers_85 : decode cX11_remembers 85 = .ok (.aload_n 0, 1) := by decide +kernel
theorem dX11_remembers_86 : decode cX11_remembers 86 = .ok (.dup, 1) := by decide +kernel
theorem dX11_remembers_87 : decode cX11_remembers 87 = .ok (.getfield 29, 3) := by decide +kernel
theorem dX11_remembers_90 : decode cX11_remembers 90 = .ok (.iconst 1, 1) := by decide +kernel
theorem dX11_remembers_91 : decode cX11_remembers 91 = .ok (.iadd, 1) := by decide +kernel
theorem dX11_remembers_92 : decode cX11_remembers 92 = .ok (.putfield 29, 3) := by decide +kernel
theorem dX11_remembers_95 : decode cX11_remembers 95 = .ok (.return_, 1) := by decide +kernel
theorem dX11_lays_0 : decode cX11_lays 0 = .ok (.aload_n 0, 1) := by decide +kernel
theorem dX11_lays_1 : decode cX11_lays 1 = .ok (.invokevirtual 33, 3) := by decide +kernel
theorem dX11_lays_4 : decode cX11_lays 4 = .ok (.aload_n 0, 1) := by decide +kernel
theorem dX11_lays_5 : decode cX11_lays 5 = .ok (.sipush 413, 3) := by decide +kernel
theorem dX11_lays_8 : decode cX11_lays 8 = .ok (.iconst 0, 1) := by decide +kernel
theorem dX11_lays_9 : decode cX11_lays 9 = .ok (.invokevirtual 36, 3) := by decide +kernel
theorem dX11_lays_12 : decode cX11_lays 12 = .ok (.return_, 1) := by decide +kernel
theorem dX11_rowOf_0 : decode cX11_rowOf 0 = .ok (.iconst 0, 1) := by decide +kernel
theorem dX11_rowOf_1 : decode cX11_rowOf 1 = .ok (.istore_n 3, 1) := by decide +kernel
theorem dX11_rowOf_2 : decode cX11_rowOf 2 = .ok (.iload_n 3, 1) := by decide +kernel
theorem dX11_rowOf_3 : decode cX11_rowOf 3 = .ok (.aload_n 0, 1) := by decide +kernel
theorem dX11_rowOf_4 : decode cX11_rowOf 4 = .ok (.getfield 7, 3) := by decide +kernel
theorem dX11_rowOf_7 : decode cX11_rowOf 7 = .ok (.iload_n 1, 1) := by decide +kernel
theorem dX11_rowOf_8 : decode cX11_rowOf 8 = .ok (.iconst 0, 1) := by decide +kernel
theorem dX11_rowOf_9 : decode cX11_rowOf 9 = .ok (.iadd, 1) := by decide +kernel
theorem dX11_rowOf_10 : decode cX11_rowOf 10 = .ok (.iaload, 1) := by decide +kernel
theorem dX11_rowOf_11 : decode cX11_rowOf 11 = .ok (.if_icmp .ge 33, 3) := by decide +kernel
theorem dX11_rowOf_14 : decode cX11_rowOf 14 = .ok (.aload_n 0, 1) := by decide +kernel
theorem dX11_rowOf_15 : decode cX11_rowOf 15 = .ok (.getfield 7, 3) := by decide +kernel
theorem dX11_rowOf_18 : decode cX11_rowOf 18 = .ok (.iload_n 1, 1) := by decide +kernel
theorem dX11_rowOf_19 : decode cX11_rowOf 19 = .ok (.iconst 1, 1) := by decide +kernel
theorem dX11_rowOf_20 : decode cX11_rowOf 20 = .ok (.iadd, 1) := by decide +kernel
theorem dX11_rowOf_21 : decode cX11_rowOf 21 = .ok (.iconst 4, 1) := by decide +kernel
theorem dX11_rowOf_22 : decode cX11_rowOf 22 = .ok (.iload_n 3, 1) := by decide +kernel
theorem dX11_rowOf_23 : decode cX11_rowOf 23 = .ok (.imul, 1) := by decide +kernel
theorem dX11_rowOf_24 : decode cX11_rowOf 24 = .ok (.iadd, 1) := by decide +kernel
theorem dX11_rowOf_25 : decode cX11_rowOf 25 = .ok (.iaload, 1) := by decide +kernel
theorem dX11_rowOf_26 : decode cX11_rowOf 26 = .ok (.iload_n 2, 1) := by decide +kernel
theorem dX11_rowOf_27 : decode cX11_rowOf 27 = .ok (.if_icmp .ne 11, 3) := by decide +kernel
theorem dX11_rowOf_30 : decode cX11_rowOf 30 = .ok (.iload_n 1, 1) := by decide +kernel
theorem dX11_rowOf_31 : decode cX11_rowOf 31 = .ok (.iconst 1, 1) := by decide +kernel
theorem dX11_rowOf_32 : decode cX11_rowOf 32 = .ok (.iadd, 1) := by decide +kernel
theorem dX11_rowOf_33 : decode cX11_rowOf 33 = .ok (.iconst 4, 1) := by decide +kernel
theorem dX11_rowOf_34 : decode cX11_rowOf 34 = .ok (.iload_n 3, 1) := by decide +kernel
theorem dX11_rowOf_35 : decode cX11_rowOf 35 = .ok (.imul, 1) := by decide +kernel
theorem dX11_rowOf_36 : decode cX11_rowOf 36 = .ok (.iadd, 1) := by decide +kernel
theorem dX11_rowOf_37 : decode cX11_rowOf 37 = .ok (.ireturn, 1) := by decide +kernel
theorem dX11_rowOf_38 : decode cX11_rowOf 38 = .ok (.iinc 3 1, 3) := by decide +kernel
theorem dX11_rowOf_41 : decode cX11_rowOf 41 = .ok (.goto (-39), 3) := by decide +kernel
theorem dX11_rowOf_44 : decode cX11_rowOf 44 = .ok (.iconst (-1), 1) := by decide +kernel
theorem dX11_rowOf_45 : decode cX11_rowOf 45 = .ok (.ireturn, 1) := by decide +kernel
theorem dX11_ruleAt_0 : decode cX11_ruleAt 0 = .ok (.iload_n 0, 1) := by decide +kernel
theorem dX11_ruleAt_1 : decode cX11_ruleAt 1 = .ok (.bipush 82, 2) := by decide +kernel
theorem dX11_ruleAt_3 : decode cX11_ruleAt 3 = .ok (.iadd, 1) := by decide +kernel
theorem dX11_ruleAt_4 : decode cX11_ruleAt 4 = .ok (.bipush 12, 2) := by decide +kernel
theorem dX11_ruleAt_6 : decode cX11_ruleAt 6 = .ok (.iload_n 1, 1) := by decide +kernel
theorem dX11_ruleAt_7 : decode cX11_ruleAt 7 = .ok (.imul, 1) := by decide +kernel
theorem dX11_ruleAt_8 : decode cX11_ruleAt 8 = .ok (.iadd, 1) := by decide +kernel
theorem dX11_ruleAt_9 : decode cX11_ruleAt 9 = .ok (.ireturn, 1) := by decide +kernel
theorem dX11_isOf_0 : decode cX11_isOf 0 = .ok (.iload_n 1, 1) := by decide +kernel
theorem dX11_isOf_1 : decode cX11_isOf 1 = .ok (.iload_n 2, 1) := by decide +kernel
theorem dX11_isOf_2 : decode cX11_isOf 2 = .ok (.invokestatic 40, 3) := by decide +kernel
theorem dX11_isOf_5 : decode cX11_isOf 5 = .ok (.istore 5, 2) := by decide +kernel
theorem dX11_isOf_7 : decode cX11_isOf 7 = .ok (.aload_n 0, 1) := by decide +kernel
theorem dX11_isOf_8 : decode cX11_isOf 8 = .ok (.getfield 7, 3) := by decide +kernel
theorem dX11_isOf_11 : decode cX11_isOf 11 = .ok (.iload 5, 2) := by decide +kernel
theorem dX11_isOf_13 : decode cX11_isOf 13 = .ok (.iconst 0, 1) := by decide +kernel
theorem dX11_isOf_14 : decode cX11_isOf 14 = .ok (.iadd, 1) := by decide +kernel
theorem dX11_isOf_15 : decode cX11_isOf 15 = .ok (.iaload, 1) := by decide +kernel
theorem dX11_isOf_16 : decode cX11_isOf 16 = .ok (.iload_n 3, 1) := by decide +kernel
theorem dX11_isOf_17 : decode cX11_isOf 17 = .ok (.if_icmp .ne 21, 3) := by decide +kernel
theorem dX11_isOf_20 : decode cX11_isOf 20 = .ok (.aload_n 0, 1) := by decide +kernel
theorem dX11_isOf_21 : decode cX11_isOf 21 = .ok (.getfield 7, 3) := by decide +kernel
theorem dX11_isOf_24 : decode cX11_isOf 24 = .ok (.iload 5, 2) := by decide +kernel
theorem dX11_isOf_26 : decode cX11_isOf 26 = .ok (.iconst 1, 1) := by decide +kernel
theorem dX11_isOf_27 : decode cX11_isOf 27 = .ok (.iadd, 1) := by decide +kernel
theorem dX11_isOf_28 : decode cX11_isOf 28 = .ok (.iaload, 1) := by decide +kernel
theorem dX11_isOf_29 : decode cX11_isOf 29 = .ok (.iload 4, 2) := by decide +kernel
theorem dX11_isOf_31 : decode cX11_isOf 31 = .ok (.if_icmp .ne 7, 3) := by decide +kernel
theorem dX11_isOf_34 : decode cX11_isOf 34 = .ok (.iconst 1, 1) := by decide +kernel
theorem dX11_isOf_35 : decode cX11_isOf 35 = .ok (.goto 4, 3) := by decide +kernel
theorem dX11_isOf_38 : decode cX11_isOf 38 = .ok (.iconst 0, 1) := by decide +kernel
theorem dX11_isOf_39 : decode cX11_isOf 39 = .ok (.ireturn, 1) := by decide +kernel
theorem dX11_orderAt_0 : decode cX11_orderAt 0 = .ok (.iconst 0, 1) := by decide +kernel
theorem dX11_orderAt_1 : decode cX11_orderAt 1 = .ok (.istore 5, 2) := by decide +kernel
theorem dX11_orderAt_3 : decode cX11_orderAt 3 = .ok (.iload 5, 2) := by decide +kernel
theorem dX11_orderAt_5 : decode cX11_orderAt 5 = .ok (.aload_n 0, 1) := by decide +kernel
theorem dX11_orderAt_6 : decode cX11_orderAt 6 = .ok (.getfield 7, 3) := by decide +kernel
theorem dX11_orderAt_9 : decode cX11_orderAt 9 = .ok (.iload_n 1, 1) := by decide +kernel
theorem dX11_orderAt_10 : decode cX11_orderAt 10 = .ok (.bipush 81, 2) := by decide +kernel
theorem dX11_orderAt_12 : decode cX11_orderAt 12 = .ok (.iadd, 1) := by decide +kernel
theorem dX11_orderAt_13 : decode cX11_orderAt 13 = .ok (.iaload, 1) := by decide +kernel
theorem dX11_orderAt_14 : decode cX11_orderAt 14 = .ok (.if_icmp .ge 125, 3) := by decide +kernel
theorem dX11_orderAt_17 : decode cX11_orderAt 17 = .ok (.iconst 0, 1) := by decide +kernel
theorem dX11_orderAt_18 : decode cX11_orderAt 18 = .ok (.istore 6, 2) := by decide +kernel
theorem dX11_orderAt_20 : decode cX11_orderAt 20 = .ok (.iconst 0, 1) := by decide +kernel
theorem dX11_orderAt_21 : decode cX11_orderAt 21 = .ok (.istore 7, 2) := by decide +kernel
theorem dX11_orderAt_23 : decode cX11_orderAt 23 = .ok (.iload 7, 2) := by decide +kernel
theorem dX11_orderAt_25 : decode cX11_orderAt 25 = .ok (.aload_n 0, 1) := by decide +kernel
theorem dX11_orderAt_26 : decode cX11_orderAt 26 = .ok (.getfield 7, 3) := by decide +kernel
theorem dX11_orderAt_29 : decode cX11_orderAt 29 = .ok (.iload_n 1, 1) := by decide +kernel
theorem dX11_orderAt_30 : decode cX11_orderAt 30 = .ok (.bipush 81, 2) := by decide +kernel
theorem dX11_orderAt_32 : decode cX11_orderAt 32 = .ok (.iadd, 1) := by decide +kernel
theorem dX11_orderAt_33 : decode cX11_orderAt 33 = .ok (.iaload, 1) := by decide +kernel
theorem dX11_orderAt_34 : decode cX11_orderAt 34 = .ok (.if_icmp .ge 77, 3) := by decide +kernel
theorem dX11_orderAt_37 : decode cX11_orderAt 37 = .ok (.aload_n 0, 1) := by decide +kernel
theorem dX11_orderAt_38 : decode cX11_orderAt 38 = .ok (.getfield 7, 3) := by decide +kernel
theorem dX11_orderAt_41 : decode cX11_orderAt 41 = .ok (.iload_n 1, 1) := by decide +kernel
theorem dX11_orderAt_42 : decode cX11_orderAt 42 = .ok (.iload 7, 2) := by decide +kernel
theorem dX11_orderAt_44 : decode cX11_orderAt 44 = .ok (.invokestatic 40, 3) := by decide +kernel
theorem dX11_orderAt_47 : decode cX11_orderAt 47 = .ok (.iconst 2, 1) := by decide +kernel
theorem dX11_orderAt_48 : decode cX11_orderAt 48 = .ok (.iadd, 1) := by decide +kernel
theorem dX11_orderAt_49 : decode cX11_orderAt 49 = .ok (.iaload, 1) := by decide +kernel
theorem dX11_orderAt_50 : decode cX11_orderAt 50 = .ok (.aload_n 0, 1) := by decide +kernel
theorem dX11_orderAt_51 : decode cX11_orderAt 51 = .ok (.getfield 7, 3) := by decide +kernel
theorem dX11_orderAt_54 : decode cX11_orderAt 54 = .ok (.iload_n 1, 1) := by decide +kernel
theorem dX11_orderAt_55 : decode cX11_orderAt 55 = .ok (.iload 5, 2) := by decide +kernel
theorem dX11_orderAt_57 : decode cX11_orderAt 57 = .ok (.invokestatic 40, 3) := by decide +kernel
theorem dX11_orderAt_60 : decode cX11_orderAt 60 = .ok (.iconst 2, 1) := by decide +kernel
theorem dX11_orderAt_61 : decode cX11_orderAt 61 = .ok (.iadd, 1) := by decide +kernel
theorem dX11_orderAt_62 : decode cX11_orderAt 62 = .ok (.iaload, 1) := by decide +kernel
theorem dX11_orderAt_63 : decode cX11_orderAt 63 = .ok (.isub, 1) := by decide +kernel
theorem dX11_orderAt_64 : decode cX11_orderAt 64 = .ok (.istore 8, 2) := by decide +kernel
theorem dX11_orderAt_66 : decode cX11_orderAt 66 = .ok (.iload 6, 2) := by decide +kernel
theorem dX11_orderAt_68 : decode cX11_orderAt 68 = .ok (.aload_n 0, 1) := by decide +kernel
theorem dX11_orderAt_69 : decode cX11_orderAt 69 = .ok (.iload_n 1, 1) := by decide +kernel
theorem dX11_orderAt_70 : decode cX11_orderAt 70 = .ok (.iload 7, 2) := by decide +kernel
theorem dX11_orderAt_72 : decode cX11_orderAt 72 = .ok (.iload_n 2, 1) := by decide +kernel
theorem dX11_orderAt_73 : decode cX11_orderAt 73 = .ok (.iload_n 3, 1) := by decide +kernel
theorem dX11_orderAt_74 : decode cX11_orderAt 74 = .ok (.invokevirtual 44, 3) := by decide +kernel
theorem dX11_orderAt_77 : decode cX11_orderAt 77 = .ok (.ifCond .eq 24, 3) := by decide +kernel
theorem dX11_orderAt_80 : decode cX11_orderAt 80 = .ok (.iload 8, 2) := by decide +kernel
theorem dX11_orderAt_82 : decode cX11_orderAt 82 = .ok (.ifCond .lt 15, 3) := by decide +kernel
theorem dX11_orderAt_85 : decode cX11_orderAt 85 = .ok (.iload 8, 2) := by decide +kernel
theorem dX11_orderAt_87 : decode cX11_orderAt 87 = .ok (.ifCond .ne 14, 3) := by decide +kernel
theorem dX11_orderAt_90 : decode cX11_orderAt 90 = .ok (.iload 7, 2) := by decide +kernel
theorem dX11_orderAt_92 : decode cX11_orderAt 92 = .ok (.iload 5, 2) := by decide +kernel
theorem dX11_orderAt_94 : decode cX11_orderAt 94 = .ok (.if_icmp .ge 7, 3) := by decide +kernel
theorem dX11_orderAt_97 : decode cX11_orderAt 97 = .ok (.iconst 1, 1) := by decide +kernel
theorem dX11_orderAt_98 : decode cX11_orderAt 98 = .ok (.goto 4, 3) := by decide +kernel
theorem dX11_orderAt_101 : decode cX11_orderAt 101 = .ok (.iconst 0, 1) := by decide +kernel
theorem dX11_orderAt_102 : decode cX11_orderAt 102 = .ok (.iadd, 1) := by decide +kernel
theorem dX11_orderAt_103 : decode cX11_orderAt 103 = .ok (.istore 6, 2) := by decide +kernel
theorem dX11_orderAt_105 : decode cX11_orderAt 105 = .ok (.iinc 7 1, 3) := by decide +kernel
theorem dX11_orderAt_108 : decode cX11_orderAt 108 = .ok (.goto (-85), 3) := by decide +kernel
theorem dX11_orderAt_111 : decode cX11_orderAt 111 = .ok (.aload_n 0, 1) := by decide +kernel
theorem dX11_orderAt_112 : decode cX11_orderAt 112 = .ok (.iload_n 1, 1) := by decide +kernel
theorem dX11_orderAt_113 : decode cX11_orderAt 113 = .ok (.iload 5, 2) := by decide +kernel
theorem dX11_orderAt_115 : decode cX11_orderAt 115 = .ok (.iload_n 2, 1) := by decide +kernel
theorem dX11_orderAt_116 : decode cX11_orderAt 116 = .ok (.iload_n 3, 1) := by decide +kernel
theorem dX11_orderAt_117 : decode cX11_orderAt 117 = .ok (.invokevirtual 44, 3) := by decide +kernel
theorem dX11_orderAt_120 : decode cX11_orderAt 120 = .ok (.ifCond .eq 13, 3) := by decide +kernel
theorem dX11_orderAt_123 : decode cX11_orderAt 123 = .ok (.iload 6, 2) := by decide +kernel
theorem dX11_orderAt_125 : decode cX11_orderAt 125 = .ok (.iload 4, 2) := by decide +kernel
theorem dX11_orderAt_127 : decode cX11_orderAt 127 = .ok (.if_icmp .ne 6, 3) := by decide +kernel
theorem dX11_orderAt_130 : decode cX11_orderAt 130 = .ok (.iload 5, 2) := by decide +kernel
theorem dX11_orderAt_132 : decode cX11_orderAt 132 = .ok (.ireturn, 1) := by decide +kernel
theorem dX11_orderAt_133 : decode cX11_orderAt 133 = .ok (.iinc 5 1, 3) := by decide +kernel
theorem dX11_orderAt_136 : decode cX11_orderAt 136 = .ok (.goto (-133), 3) := by decide +kernel
theorem dX11_orderAt_139 : decode cX11_orderAt 139 = .ok (.sipush (-1006), 3) := by decide +kernel
theorem dX11_orderAt_142 : decode cX11_orderAt 142 = .ok (.ireturn, 1) := by decide +kernel
theorem dX11_image_0 : decode cX11_image 0 = .ok (.iload_n 2, 1) := by decide +kernel
theorem dX11_image_1 : decode cX11_image 1 = .ok (.iconst 3, 1) := by decide +kernel
theorem dX11_image_2 : decode cX11_image 2 = .ok (.if_icmp .ne 17, 3) := by decide +kernel
theorem dX11_image_5 : decode cX11_image 5 = .ok (.aload_n 0, 1) := by decide +kernel
theorem dX11_image_6 : decode cX11_image 6 = .ok (.getfield 22, 3) := by decide +kernel
theorem dX11_image_9 : decode cX11_image 9 = .ok (.bipush 8, 2) := by decide +kernel
theorem dX11_image_11 : decode cX11_image 11 = .ok (.iload_n 1, 1) := by decide +kernel
theorem dX11_image_12 : decode cX11_image 12 = .ok (.imul, 1) := by decide +kernel
theorem dX11_image_13 : decode cX11_image 13 = .ok (.iconst 1, 1) := by decide +kernel
theorem dX11_image_14 : decode cX11_image 14 = .ok (.iadd, 1) := by decide +kernel
theorem dX11_image_15 : decode cX11_image 15 = .ok (.iaload, 1) := by decide +kernel
theorem dX11_image_16 : decode cX11_image 16 = .ok (.goto 16, 3) := by decide +kernel
theorem dX11_image_19 : decode cX11_image 19 = .ok (.aload_n 0, 1) := by decide +kernel
theorem dX11_image_20 : decode cX11_image 20 = .ok (.getfield 22, 3) := by decide +kernel
theorem dX11_image_23 : decode cX11_image 23 = .ok (.bipush 8, 2) := by decide +kernel
theorem dX11_image_25 : decode cX11_image 25 = .ok (.iload_n 1, 1) := by decide +kernel
theorem dX11_image_26 : decode cX11_image 26 = .ok (.imul, 1) := by decide +kernel
theorem dX11_image_27 : decode cX11_image 27 = .ok (.iconst 2, 1) := by decide +kernel
theorem dX11_image_28 : decode cX11_image 28 = .ok (.iadd, 1) := by decide +kernel
theorem dX11_image_29 : decode cX11_image 29 = .ok (.iload_n 2, 1) := by decide +kernel
theorem dX11_image_30 : decode cX11_image 30 = .ok (.iadd, 1) := by decide +kernel
theorem dX11_image_31 : decode cX11_image 31 = .ok (.iaload, 1) := by decide +kernel
theorem dX11_image_32 : decode cX11_image 32 = .ok (.ireturn, 1) := by decide +kernel
theorem dX11_asks_0 : decode cX11_asks 0 = .ok (.aload_n 0, 1) := by decide +kernel
theorem dX11_asks_1 : decode cX11_asks 1 = .ok (.getfield 22, 3) := by decide +kernel
theorem dX11_asks_4 : decode cX11_asks 4 = .ok (.bipush 8, 2) := by decide +kernel
theorem dX11_asks_6 : decode cX11_asks 6 = .ok (.iload_n 1, 1) := by decide +kernel
theorem dX11_asks_7 : decode cX11_asks 7 = .ok (.imul, 1) := by decide +kernel
theorem dX11_asks_8 : decode cX11_asks 8 = .ok (.iconst 0, 1) := by decide +kernel
theorem dX11_asks_9 : decode cX11_asks 9 = .ok (.iadd, 1) := by decide +kernel
theorem dX11_asks_10 : decode cX11_asks 10 = .ok (.iload_n 2, 1) := by decide +kernel
theorem dX11_asks_11 : decode cX11_asks 11 = .ok (.iastore, 1) := by decide +kernel
theorem dX11_asks_12 : decode cX11_asks 12 = .ok (.aload_n 0, 1) := by decide +kernel
theorem dX11_asks_13 : decode cX11_asks 13 = .ok (.getfield 22, 3) := by decide +kernel
theorem dX11_asks_16 : decode cX11_asks 16 = .ok (.bipush 8, 2) := by decide +kernel
theorem dX11_asks_18 : decode cX11_asks 18 = .ok (.iload_n 1, 1) := by decide +kernel
theorem dX11_asks_19 : decode cX11_asks 19 = .ok (.imul, 1) := by decide +kernel
theorem dX11_asks_20 : decode cX11_asks 20 = .ok (.iconst 1, 1) := by decide +kernel
theorem dX11_asks_21 : decode cX11_asks 21 = .ok (.iadd, 1) := by decide +kernel
theorem dX11_asks_22 : decode cX11_asks 22 = .ok (.iload_n 3, 1) := by decide +kernel
theorem dX11_asks_23 : decode cX11_asks 23 = .ok (.iastore, 1) := by decide +kernel
theorem dX11_asks_24 : decode cX11_asks 24 = .ok (.aload_n 0, 1) := by decide +kernel
theorem dX11_asks_25 : decode cX11_asks 25 = .ok (.getfield 22, 3) := by decide +kernel
theorem dX11_asks_28 : decode cX11_asks 28 = .ok (.bipush 8, 2) := by decide +kernel
theorem dX11_asks_30 : decode cX11_asks 30 = .ok (.iload_n 1, 1) := by decide +kernel
theorem dX11_asks_31 : decode cX11_asks 31 = .ok (.imul, 1) := by decide +kernel
theorem dX11_asks_32 : decode cX11_asks 32 = .ok (.bipush 7, 2) := by decide +kernel
theorem dX11_asks_34 : decode cX11_asks 34 = .ok (.iadd, 1) := by decide +kernel
theorem dX11_asks_35 : decode cX11_asks 35 = .ok (.iload 4, 2) := by decide +kernel
theorem dX11_asks_37 : decode cX11_asks 37 = .ok (.iastore, 1) := by decide +kernel
theorem dX11_asks_38 : decode cX11_asks 38 = .ok (.return_, 1) := by decide +kernel
theorem dX11_refuses_0 : decode cX11_refuses 0 = .ok (.aload_n 0, 1) := by decide +kernel
theorem dX11_refuses_1 : decode cX11_refuses 1 = .ok (.iload_n 1, 1) := by decide +kernel
theorem dX11_refuses_2 : decode cX11_refuses 2 = .ok (.putfield 48, 3) := by decide +kernel
theorem dX11_refuses_5 : decode cX11_refuses 5 = .ok (.aload_n 0, 1) := by decide +kernel
theorem dX11_refuses_6 : decode cX11_refuses 6 = .ok (.iload_n 2, 1) := by decide +kernel
theorem dX11_refuses_7 : decode cX11_refuses 7 = .ok (.putfield 51, 3) := by decide +kernel
theorem dX11_refuses_10 : decode cX11_refuses 10 = .ok (.return_, 1) := by decide +kernel
theorem dX11_isNothing_0 : decode cX11_isNothing 0 = .ok (.aload_n 0, 1) := by decide +kernel
theorem dX11_isNothing_1 : decode cX11_isNothing 1 = .ok (.getfield 22, 3) := by decide +kernel
theorem dX11_isNothing_4 : decode cX11_isNothing 4 = .ok (.bipush 8, 2) := by decide +kernel
theorem dX11_isNothing_6 : decode cX11_isNothing 6 = .ok (.iload_n 2, 1) := by decide +kernel
theorem dX11_isNothing_7 : decode cX11_isNothing 7 = .ok (.imul, 1) := by decide +kernel
theorem dX11_isNothing_8 : decode cX11_isNothing 8 = .ok (.iconst 1, 1) := by decide +kernel
theorem dX11_isNothing_9 : decode cX11_isNothing 9 = .ok (.iadd, 1) := by decide +kernel
theorem dX11_isNothing_10 : decode cX11_isNothing 10 = .ok (.iaload, 1) := by decide +kernel
theorem dX11_isNothing_11 : decode cX11_isNothing 11 = .ok (.istore 5, 2) := by decide +kernel
theorem dX11_isNothing_13 : decode cX11_isNothing 13 = .ok (.aload_n 0, 1) := by decide +kernel
theorem dX11_isNothing_14 : decode cX11_isNothing 14 = .ok (.iload_n 1, 1) := by decide +kernel
theorem dX11_isNothing_15 : decode cX11_isNothing 15 = .ok (.iload 5, 2) := by decide +kernel
theorem dX11_isNothing_17 : decode cX11_isNothing 17 = .ok (.invokevirtual 54, 3) := by decide +kernel
theorem dX11_isNothing_20 : decode cX11_isNothing 20 = .ok (.istore 6, 2) := by decide +kernel
theorem dX11_isNothing_22 : decode cX11_isNothing 22 = .ok (.aload_n 0, 1) := by decide +kernel
theorem dX11_isNothing_23 : decode cX11_isNothing 23 = .ok (.getfield 22, 3) := by decide +kernel
theorem dX11_isNothing_26 : decode cX11_isNothing 26 = .ok (.bipush 8, 2) := by decide +kernel
theorem dX11_isNothing_28 : decode cX11_isNothing 28 = .ok (.iload_n 2, 1) := by decide +kernel
theorem dX11_isNothing_29 : decode cX11_isNothing 29 = .ok (.imul, 1) := by decide +kernel
theorem dX11_isNothing_30 : decode cX11_isNothing 30 = .ok (.iconst 0, 1) := by decide +kernel
theorem dX11_isNothing_31 : decode cX11_isNothing 31 = .ok (.iadd, 1) := by decide +kernel
theorem dX11_isNothing_32 : decode cX11_isNothing 32 = .ok (.iaload, 1) := by decide +kernel
theorem dX11_isNothing_33 : decode cX11_isNothing 33 = .ok (.ifCond .ne 35, 3) := by decide +kernel
theorem dX11_isNothing_36 : decode cX11_isNothing 36 = .ok (.iload 5, 2) := by decide +kernel
theorem dX11_isNothing_38 : decode cX11_isNothing 38 = .ok (.invokestatic 57, 3) := by decide +kernel
theorem dX11_isNothing_41 : decode cX11_isNothing 41 = .ok (.ifCond .eq 21, 3) := by decide +kernel
theorem dX11_isNothing_44 : decode cX11_isNothing 44 = .ok (.iload 6, 2) := by decide +kernel
