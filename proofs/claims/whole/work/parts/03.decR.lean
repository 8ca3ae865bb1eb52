theorem d_Rb_init_0 : decode b_Rb_init 0 = .ok (.aload_n 0, 1) := by decide +kernel
theorem d_Rb_init_1 : decode b_Rb_init 1 = .ok (.invokespecial 3, 3) := by decide +kernel
theorem d_Rb_init_4 : decode b_Rb_init 4 = .ok (.aload_n 0, 1) := by decide +kernel
theorem d_Rb_init_5 : decode b_Rb_init 5 = .ok (.bipush 20, 2) := by decide +kernel
theorem d_Rb_init_7 : decode b_Rb_init 7 = .ok (.anewarray 9, 3) := by decide +kernel
theorem d_Rb_init_10 : decode b_Rb_init 10 = .ok (.putfield 11, 3) := by decide +kernel
theorem d_Rb_init_13 : decode b_Rb_init 13 = .ok (.aload_n 0, 1) := by decide +kernel
theorem d_Rb_init_14 : decode b_Rb_init 14 = .ok (.iconst 0, 1) := by decide +kernel
theorem d_Rb_init_15 : decode b_Rb_init 15 = .ok (.putfield 17, 3) := by decide +kernel
theorem d_Rb_init_18 : decode b_Rb_init 18 = .ok (.return_, 1) := by decide +kernel
theorem d_Rb_at_0 : decode b_Rb_at 0 = .ok (.iload_n 1, 1) := by decide +kernel
theorem d_Rb_at_1 : decode b_Rb_at 1 = .ok (.aload_n 0, 1) := by decide +kernel
theorem d_Rb_at_2 : decode b_Rb_at 2 = .ok (.getfield 11, 3) := by decide +kernel
theorem d_Rb_at_5 : decode b_Rb_at 5 = .ok (.arraylength, 1) := by decide +kernel
theorem d_Rb_at_6 : decode b_Rb_at 6 = .ok (.invokestatic 21, 3) := by decide +kernel
theorem d_Rb_at_9 : decode b_Rb_at 9 = .ok (.ifCond .eq 12, 3) := by decide +kernel
theorem d_Rb_at_12 : decode b_Rb_at 12 = .ok (.aload_n 0, 1) := by decide +kernel
theorem d_Rb_at_13 : decode b_Rb_at 13 = .ok (.getfield 11, 3) := by decide +kernel
theorem d_Rb_at_16 : decode b_Rb_at 16 = .ok (.iload_n 1, 1) := by decide +kernel
theorem d_Rb_at_17 : decode b_Rb_at 17 = .ok (.aaload, 1) := by decide +kernel
theorem d_Rb_at_18 : decode b_Rb_at 18 = .ok (.goto 4, 3) := by decide +kernel
theorem d_Rb_at_21 : decode b_Rb_at 21 = .ok (.aconst_null, 1) := by decide +kernel
theorem d_Rb_at_22 : decode b_Rb_at 22 = .ok (.areturn, 1) := by decide +kernel
theorem d_Rb_placeOf_0 : decode b_Rb_placeOf 0 = .ok (.iconst 0, 1) := by decide +kernel
theorem d_Rb_placeOf_1 : decode b_Rb_placeOf 1 = .ok (.istore_n 2, 1) := by decide +kernel
theorem d_Rb_placeOf_2 : decode b_Rb_placeOf 2 = .ok (.iload_n 2, 1) := by decide +kernel
theorem d_Rb_placeOf_3 : decode b_Rb_placeOf 3 = .ok (.aload_n 0, 1) := by decide +kernel
theorem d_Rb_placeOf_4 : decode b_Rb_placeOf 4 = .ok (.getfield 11, 3) := by decide +kernel
theorem d_Rb_placeOf_7 : decode b_Rb_placeOf 7 = .ok (.arraylength, 1) := by decide +kernel
theorem d_Rb_placeOf_8 : decode b_Rb_placeOf 8 = .ok (.if_icmp .ge 29, 3) := by decide +kernel
theorem d_Rb_placeOf_11 : decode b_Rb_placeOf 11 = .ok (.aload_n 0, 1) := by decide +kernel
theorem d_Rb_placeOf_12 : decode b_Rb_placeOf 12 = .ok (.iload_n 2, 1) := by decide +kernel
theorem d_Rb_placeOf_13 : decode b_Rb_placeOf 13 = .ok (.invokevirtual 25, 3) := by decide +kernel
theorem d_Rb_placeOf_16 : decode b_Rb_placeOf 16 = .ok (.astore_n 3, 1) := by decide +kernel
theorem d_Rb_placeOf_17 : decode b_Rb_placeOf 17 = .ok (.aload_n 3, 1) := by decide +kernel
theorem d_Rb_placeOf_18 : decode b_Rb_placeOf 18 = .ok (.ifnull 13, 3) := by decide +kernel
theorem d_Rb_placeOf_21 : decode b_Rb_placeOf 21 = .ok (.aload_n 3, 1) := by decide +kernel
theorem d_Rb_placeOf_22 : decode b_Rb_placeOf 22 = .ok (.getfield 29, 3) := by decide +kernel
theorem d_Rb_placeOf_25 : decode b_Rb_placeOf 25 = .ok (.iload_n 1, 1) := by decide +kernel
theorem d_Rb_placeOf_26 : decode b_Rb_placeOf 26 = .ok (.if_icmp .ne 5, 3) := by decide +kernel
theorem d_Rb_placeOf_29 : decode b_Rb_placeOf 29 = .ok (.iload_n 2, 1) := by decide +kernel
theorem d_Rb_placeOf_30 : decode b_Rb_placeOf 30 = .ok (.ireturn, 1) := by decide +kernel
theorem d_Rb_placeOf_31 : decode b_Rb_placeOf 31 = .ok (.iinc 2 1, 3) := by decide +kernel
theorem d_Rb_placeOf_34 : decode b_Rb_placeOf 34 = .ok (.goto (-32), 3) := by decide +kernel
theorem d_Rb_placeOf_37 : decode b_Rb_placeOf 37 = .ok (.iconst (-1), 1) := by decide +kernel
theorem d_Rb_placeOf_38 : decode b_Rb_placeOf 38 = .ok (.ireturn, 1) := by decide +kernel
theorem d_Rb_add_0 : decode b_Rb_add 0 = .ok (.aload_n 0, 1) := by decide +kernel
theorem d_Rb_add_1 : decode b_Rb_add 1 = .ok (.getfield 17, 3) := by decide +kernel
theorem d_Rb_add_4 : decode b_Rb_add 4 = .ok (.aload_n 0, 1) := by decide +kernel
theorem d_Rb_add_5 : decode b_Rb_add 5 = .ok (.getfield 11, 3) := by decide +kernel
theorem d_Rb_add_8 : decode b_Rb_add 8 = .ok (.arraylength, 1) := by decide +kernel
theorem d_Rb_add_9 : decode b_Rb_add 9 = .ok (.invokestatic 21, 3) := by decide +kernel
theorem d_Rb_add_12 : decode b_Rb_add 12 = .ok (.ifCond .ne 6, 3) := by decide +kernel
theorem d_Rb_add_15 : decode b_Rb_add 15 = .ok (.bipush (-3), 2) := by decide +kernel
theorem d_Rb_add_17 : decode b_Rb_add 17 = .ok (.ireturn, 1) := by decide +kernel
theorem d_Rb_add_18 : decode b_Rb_add 18 = .ok (.new 9, 3) := by decide +kernel
theorem d_Rb_add_21 : decode b_Rb_add 21 = .ok (.dup, 1) := by decide +kernel
theorem d_Rb_add_22 : decode b_Rb_add 22 = .ok (.aload_n 0, 1) := by decide +kernel
theorem d_Rb_add_23 : decode b_Rb_add 23 = .ok (.getfield 17, 3) := by decide +kernel
theorem d_Rb_add_26 : decode b_Rb_add 26 = .ok (.iload_n 1, 1) := by decide +kernel
theorem d_Rb_add_27 : decode b_Rb_add 27 = .ok (.iload_n 2, 1) := by decide +kernel
theorem d_Rb_add_28 : decode b_Rb_add 28 = .ok (.aload_n 3, 1) := by decide +kernel
theorem d_Rb_add_29 : decode b_Rb_add 29 = .ok (.invokespecial 32, 3) := by decide +kernel
theorem d_Rb_add_32 : decode b_Rb_add 32 = .ok (.astore 4, 2) := by decide +kernel
theorem d_Rb_add_34 : decode b_Rb_add 34 = .ok (.aload_n 0, 1) := by decide +kernel
theorem d_Rb_add_35 : decode b_Rb_add 35 = .ok (.aload 4, 2) := by decide +kernel
theorem d_Rb_add_37 : decode b_Rb_add 37 = .ok (.invokevirtual 35, 3) := by decide +kernel
theorem d_Rb_add_40 : decode b_Rb_add 40 = .ok (.istore 5, 2) := by decide +kernel
theorem d_Rb_add_42 : decode b_Rb_add 42 = .ok (.aload_n 0, 1) := by decide +kernel
theorem d_Rb_add_43 : decode b_Rb_add 43 = .ok (.getfield 11, 3) := by decide +kernel
theorem d_Rb_add_46 : decode b_Rb_add 46 = .ok (.arraylength, 1) := by decide +kernel
theorem d_Rb_add_47 : decode b_Rb_add 47 = .ok (.iconst 1, 1) := by decide +kernel
theorem d_Rb_add_48 : decode b_Rb_add 48 = .ok (.isub, 1) := by decide +kernel
theorem d_Rb_add_49 : decode b_Rb_add 49 = .ok (.istore 6, 2) := by decide +kernel
theorem d_Rb_add_51 : decode b_Rb_add 51 = .ok (.iload 6, 2) := by decide +kernel
theorem d_Rb_add_53 : decode b_Rb_add 53 = .ok (.ifCond .le 32, 3) := by decide +kernel
theorem d_Rb_add_56 : decode b_Rb_add 56 = .ok (.iload 6, 2) := by decide +kernel
theorem d_Rb_add_58 : decode b_Rb_add 58 = .ok (.iload 5, 2) := by decide +kernel
theorem d_Rb_add_60 : decode b_Rb_add 60 = .ok (.if_icmp .le 25, 3) := by decide +kernel
theorem d_Rb_add_63 : decode b_Rb_add 63 = .ok (.aload_n 0, 1) := by decide +kernel
theorem d_Rb_add_64 : decode b_Rb_add 64 = .ok (.getfield 11, 3) := by decide +kernel
theorem d_Rb_add_67 : decode b_Rb_add 67 = .ok (.iload 6, 2) := by decide +kernel
theorem d_Rb_add_69 : decode b_Rb_add 69 = .ok (.aload_n 0, 1) := by decide +kernel
theorem d_Rb_add_70 : decode b_Rb_add 70 = .ok (.getfield 11, 3) := by decide +kernel
theorem d_Rb_add_73 : decode b_Rb_add 73 = .ok (.iload 6, 2) := by decide +kernel
theorem d_Rb_add_75 : decode b_Rb_add 75 = .ok (.iconst 1, 1) := by decide +kernel
theorem d_Rb_add_76 : decode b_Rb_add 76 = .ok (.isub, 1) := by decide +kernel
theorem d_Rb_add_77 : decode b_Rb_add 77 = .ok (.aaload, 1) := by decide +kernel
theorem d_Rb_add_78 : decode b_Rb_add 78 = .ok (.aastore, 1) := by decide +kernel
theorem d_Rb_add_79 : decode b_Rb_add 79 = .ok (.iinc 6 (-1), 3) := by decide +kernel
theorem d_Rb_add_82 : decode b_Rb_add 82 = .ok (.goto (-31), 3) := by decide +kernel
theorem d_Rb_add_85 : decode b_Rb_add 85 = .ok (.iload 5, 2) := by decide +kernel
theorem d_Rb_add_87 : decode b_Rb_add 87 = .ok (.aload_n 0, 1) := by decide +kernel
theorem d_Rb_add_88 : decode b_Rb_add 88 = .ok (.getfield 11, 3) := by decide +kernel
theorem d_Rb_add_91 : decode b_Rb_add 91 = .ok (.arraylength, 1) := by decide +kernel
theorem d_Rb_add_92 : decode b_Rb_add 92 = .ok (.invokestatic 21, 3) := by decide +kernel
theorem d_Rb_add_95 : decode b_Rb_add 95 = .ok (.ifCond .eq 12, 3) := by decide +kernel
theorem d_Rb_add_98 : decode b_Rb_add 98 = .ok (.aload_n 0, 1) := by decide +kernel
theorem d_Rb_add_99 : decode b_Rb_add 99 = .ok (.getfield 11, 3) := by decide +kernel
theorem d_Rb_add_102 : decode b_Rb_add 102 = .ok (.iload 5, 2) := by decide +kernel
theorem d_Rb_add_104 : decode b_Rb_add 104 = .ok (.aload 4, 2) := by decide +kernel
theorem d_Rb_add_106 : decode b_Rb_add 106 = .ok (.aastore, 1) := by decide +kernel
theorem d_Rb_add_107 : decode b_Rb_add 107 = .ok (.aload_n 0, 1) := by decide +kernel
theorem d_Rb_add_108 : decode b_Rb_add 108 = .ok (.dup, 1) := by decide +kernel
theorem d_Rb_add_109 : decode b_Rb_add 109 = .ok (.getfield 17, 3) := by decide +kernel
theorem d_Rb_add_112 : decode b_Rb_add 112 = .ok (.iconst 1, 1) := by decide +kernel
theorem d_Rb_add_113 : decode b_Rb_add 113 = .ok (.iadd, 1) := by decide +kernel
theorem d_Rb_add_114 : decode b_Rb_add 114 = .ok (.putfield 17, 3) := by decide +kernel
theorem d_Rb_add_117 : decode b_Rb_add 117 = .ok (.aload 4, 2) := by decide +kernel
theorem d_Rb_add_119 : decode b_Rb_add 119 = .ok (.getfield 29, 3) := by decide +kernel
theorem d_Rb_add_122 : decode b_Rb_add 122 = .ok (.ireturn, 1) := by decide +kernel
theorem d_Rb_placeFor_0 : decode b_Rb_placeFor 0 = .ok (.iconst 0, 1) := by decide +kernel
theorem d_Rb_placeFor_1 : decode b_Rb_placeFor 1 = .ok (.istore_n 2, 1) := by decide +kernel
theorem d_Rb_placeFor_2 : decode b_Rb_placeFor 2 = .ok (.iload_n 2, 1) := by decide +kernel
theorem d_Rb_placeFor_3 : decode b_Rb_placeFor 3 = .ok (.aload_n 0, 1) := by decide +kernel
theorem d_Rb_placeFor_4 : decode b_Rb_placeFor 4 = .ok (.getfield 11, 3) := by decide +kernel
theorem d_Rb_placeFor_7 : decode b_Rb_placeFor 7 = .ok (.arraylength, 1) := by decide +kernel
theorem d_Rb_placeFor_8 : decode b_Rb_placeFor 8 = .ok (.if_icmp .ge 29, 3) := by decide +kernel
theorem d_Rb_placeFor_11 : decode b_Rb_placeFor 11 = .ok (.aload_n 0, 1) := by decide +kernel
theorem d_Rb_placeFor_12 : decode b_Rb_placeFor 12 = .ok (.iload_n 2, 1) := by decide +kernel
theorem d_Rb_placeFor_13 : decode b_Rb_placeFor 13 = .ok (.invokevirtual 25, 3) := by decide +kernel
theorem d_Rb_placeFor_16 : decode b_Rb_placeFor 16 = .ok (.astore_n 3, 1) := by decide +kernel
theorem d_Rb_placeFor_17 : decode b_Rb_placeFor 17 = .ok (.aload_n 3, 1) := by decide +kernel
theorem d_Rb_placeFor_18 : decode b_Rb_placeFor 18 = .ok (.ifnull 11, 3) := by decide +kernel
theorem d_Rb_placeFor_21 : decode b_Rb_placeFor 21 = .ok (.aload_n 1, 1) := by decide +kernel
theorem d_Rb_placeFor_22 : decode b_Rb_placeFor 22 = .ok (.aload_n 3, 1) := by decide +kernel
theorem d_Rb_placeFor_23 : decode b_Rb_placeFor 23 = .ok (.invokevirtual 39, 3) := by decide +kernel
theorem d_Rb_placeFor_26 : decode b_Rb_placeFor 26 = .ok (.ifCond .eq 5, 3) := by decide +kernel
theorem d_Rb_placeFor_29 : decode b_Rb_placeFor 29 = .ok (.iload_n 2, 1) := by decide +kernel
theorem d_Rb_placeFor_30 : decode b_Rb_placeFor 30 = .ok (.ireturn, 1) := by decide +kernel
theorem d_Rb_placeFor_31 : decode b_Rb_placeFor 31 = .ok (.iinc 2 1, 3) := by decide +kernel
theorem d_Rb_placeFor_34 : decode b_Rb_placeFor 34 = .ok (.goto (-32), 3) := by decide +kernel
theorem d_Rb_placeFor_37 : decode b_Rb_placeFor 37 = .ok (.aload_n 0, 1) := by decide +kernel
theorem d_Rb_placeFor_38 : decode b_Rb_placeFor 38 = .ok (.getfield 11, 3) := by decide +kernel
theorem d_Rb_placeFor_41 : decode b_Rb_placeFor 41 = .ok (.arraylength, 1) := by decide +kernel
theorem d_Rb_placeFor_42 : decode b_Rb_placeFor 42 = .ok (.ireturn, 1) := by decide +kernel
theorem d_Rb_remove_0 : decode b_Rb_remove 0 = .ok (.iload_n 1, 1) := by decide +kernel
theorem d_Rb_remove_1 : decode b_Rb_remove 1 = .ok (.aload_n 0, 1) := by decide +kernel
theorem d_Rb_remove_2 : decode b_Rb_remove 2 = .ok (.getfield 11, 3) := by decide +kernel
theorem d_Rb_remove_5 : decode b_Rb_remove 5 = .ok (.arraylength, 1) := by decide +kernel
theorem d_Rb_remove_6 : decode b_Rb_remove 6 = .ok (.invokestatic 21, 3) := by decide +kernel
theorem d_Rb_remove_9 : decode b_Rb_remove 9 = .ok (.ifCond .eq 59, 3) := by decide +kernel
theorem d_Rb_remove_12 : decode b_Rb_remove 12 = .ok (.iload_n 1, 1) := by decide +kernel
theorem d_Rb_remove_13 : decode b_Rb_remove 13 = .ok (.istore_n 3, 1) := by decide +kernel
theorem d_Rb_remove_14 : decode b_Rb_remove 14 = .ok (.iload_n 3, 1) := by decide +kernel
theorem d_Rb_remove_15 : decode b_Rb_remove 15 = .ok (.aload_n 0, 1) := by decide +kernel
theorem d_Rb_remove_16 : decode b_Rb_remove 16 = .ok (.getfield 11, 3) := by decide +kernel
theorem d_Rb_remove_19 : decode b_Rb_remove 19 = .ok (.arraylength, 1) := by decide +kernel
theorem d_Rb_remove_20 : decode b_Rb_remove 20 = .ok (.iconst 1, 1) := by decide +kernel
theorem d_Rb_remove_21 : decode b_Rb_remove 21 = .ok (.isub, 1) := by decide +kernel
theorem d_Rb_remove_22 : decode b_Rb_remove 22 = .ok (.if_icmp .ge 23, 3) := by decide +kernel
theorem d_Rb_remove_25 : decode b_Rb_remove 25 = .ok (.aload_n 0, 1) := by decide +kernel
theorem d_Rb_remove_26 : decode b_Rb_remove 26 = .ok (.getfield 11, 3) := by decide +kernel
theorem d_Rb_remove_29 : decode b_Rb_remove 29 = .ok (.iload_n 3, 1) := by decide +kernel
theorem d_Rb_remove_30 : decode b_Rb_remove 30 = .ok (.aload_n 0, 1) := by decide +kernel
theorem d_Rb_remove_31 : decode b_Rb_remove 31 = .ok (.getfield 11, 3) := by decide +kernel
theorem d_Rb_remove_34 : decode b_Rb_remove 34 = .ok (.iload_n 3, 1) := by decide +kernel
theorem d_Rb_remove_35 : decode b_Rb_remove 35 = .ok (.iconst 1, 1) := by decide +kernel
theorem d_Rb_remove_36 : decode b_Rb_remove 36 = .ok (.iadd, 1) := by decide +kernel
theorem d_Rb_remove_37 : decode b_Rb_remove 37 = .ok (.aaload, 1) := by decide +kernel
theorem d_Rb_remove_38 : decode b_Rb_remove 38 = .ok (.aastore, 1) := by decide +kernel
theorem d_Rb_remove_39 : decode b_Rb_remove 39 = .ok (.iinc 3 1, 3) := by decide +kernel
theorem d_Rb_remove_42 : decode b_Rb_remove 42 = .ok (.goto (-28), 3) := by decide +kernel
theorem d_Rb_remove_45 : decode b_Rb_remove 45 = .ok (.aload_n 0, 1) := by decide +kernel
theorem d_Rb_remove_46 : decode b_Rb_remove 46 = .ok (.getfield 11, 3) := by decide +kernel
theorem d_Rb_remove_49 : decode b_Rb_remove 49 = .ok (.aload_n 0, 1) := by decide +kernel
theorem d_Rb_remove_50 : decode b_Rb_remove 50 = .ok (.getfield 11, 3) := by decide +kernel
theorem d_Rb_remove_53 : decode b_Rb_remove 53 = .ok (.arraylength, 1) := by decide +kernel
theorem d_Rb_remove_54 : decode b_Rb_remove 54 = .ok (.iconst 1, 1) := by decide +kernel
theorem d_Rb_remove_55 : decode b_Rb_remove 55 = .ok (.isub, 1) := by decide +kernel
theorem d_Rb_remove_56 : decode b_Rb_remove 56 = .ok (.aconst_null, 1) := by decide +kernel
theorem d_Rb_remove_57 : decode b_Rb_remove 57 = .ok (.aastore, 1) := by decide +kernel
theorem d_Rb_remove_58 : decode b_Rb_remove 58 = .ok (.aload_n 0, 1) := by decide +kernel
theorem d_Rb_remove_59 : decode b_Rb_remove 59 = .ok (.dup, 1) := by decide +kernel
theorem d_Rb_remove_60 : decode b_Rb_remove 60 = .ok (.getfield 17, 3) := by decide +kernel
theorem d_Rb_remove_63 : decode b_Rb_remove 63 = .ok (.iconst 1, 1) := by decide +kernel
theorem d_Rb_remove_64 : decode b_Rb_remove 64 = .ok (.isub, 1) := by decide +kernel
theorem d_Rb_remove_65 : decode b_Rb_remove 65 = .ok (.putfield 17, 3) := by decide +kernel
theorem d_Rb_remove_68 : decode b_Rb_remove 68 = .ok (.iconst 0, 1) := by decide +kernel
theorem d_Rb_remove_69 : decode b_Rb_remove 69 = .ok (.istore_n 3, 1) := by decide +kernel
theorem d_Rb_remove_70 : decode b_Rb_remove 70 = .ok (.iload_n 3, 1) := by decide +kernel
theorem d_Rb_remove_71 : decode b_Rb_remove 71 = .ok (.aload_n 0, 1) := by decide +kernel
theorem d_Rb_remove_72 : decode b_Rb_remove 72 = .ok (.getfield 11, 3) := by decide +kernel
theorem d_Rb_remove_75 : decode b_Rb_remove 75 = .ok (.arraylength, 1) := by decide +kernel
theorem d_Rb_remove_76 : decode b_Rb_remove 76 = .ok (.if_icmp .ge 41, 3) := by decide +kernel
theorem d_Rb_remove_79 : decode b_Rb_remove 79 = .ok (.aload_n 0, 1) := by decide +kernel
theorem d_Rb_remove_80 : decode b_Rb_remove 80 = .ok (.iload_n 3, 1) := by decide +kernel
theorem d_Rb_remove_81 : decode b_Rb_remove 81 = .ok (.invokevirtual 25, 3) := by decide +kernel
theorem d_Rb_remove_84 : decode b_Rb_remove 84 = .ok (.astore 4, 2) := by decide +kernel
theorem d_Rb_remove_86 : decode b_Rb_remove 86 = .ok (.aload 4, 2) := by decide +kernel
theorem d_Rb_remove_88 : decode b_Rb_remove 88 = .ok (.ifnull 23, 3) := by decide +kernel
theorem d_Rb_remove_91 : decode b_Rb_remove 91 = .ok (.aload 4, 2) := by decide +kernel
theorem d_Rb_remove_93 : decode b_Rb_remove 93 = .ok (.getfield 29, 3) := by decide +kernel
theorem d_Rb_remove_96 : decode b_Rb_remove 96 = .ok (.iload_n 2, 1) := by decide +kernel
theorem d_Rb_remove_97 : decode b_Rb_remove 97 = .ok (.if_icmp .le 14, 3) := by decide +kernel
theorem d_Rb_remove_100 : decode b_Rb_remove 100 = .ok (.aload 4, 2) := by decide +kernel
theorem d_Rb_remove_102 : decode b_Rb_remove 102 = .ok (.dup, 1) := by decide +kernel
theorem d_Rb_remove_103 : decode b_Rb_remove 103 = .ok (.getfield 29, 3) := by decide +kernel
theorem d_Rb_remove_106 : decode b_Rb_remove 106 = .ok (.iconst 1, 1) := by decide +kernel
theorem d_Rb_remove_107 : decode b_Rb_remove 107 = .ok (.isub, 1) := by decide +kernel
theorem d_Rb_remove_108 : decode b_Rb_remove 108 = .ok (.putfield 29, 3) := by decide +kernel
theorem d_Rb_remove_111 : decode b_Rb_remove 111 = .ok (.iinc 3 1, 3) := by decide +kernel
theorem d_Rb_remove_114 : decode b_Rb_remove 114 = .ok (.goto (-44), 3) := by decide +kernel
theorem d_Rb_remove_117 : decode b_Rb_remove 117 = .ok (.aload_n 0, 1) := by decide +kernel
theorem d_Rb_remove_118 : decode b_Rb_remove 118 = .ok (.getfield 17, 3) := by decide +kernel
theorem d_Rb_remove_121 : decode b_Rb_remove 121 = .ok (.ireturn, 1) := by decide +kernel
theorem d_Rb_deciderOf_0 : decode b_Rb_deciderOf 0 = .ok (.iload_n 1, 1) := by decide +kernel
theorem d_Rb_deciderOf_1 : decode b_Rb_deciderOf 1 = .ok (.bipush 64, 2) := by decide +kernel
theorem d_Rb_deciderOf_3 : decode b_Rb_deciderOf 3 = .ok (.idiv, 1) := by decide +kernel
theorem d_Rb_deciderOf_4 : decode b_Rb_deciderOf 4 = .ok (.istore_n 2, 1) := by decide +kernel
theorem d_Rb_deciderOf_5 : decode b_Rb_deciderOf 5 = .ok (.lconst 1, 1) := by decide +kernel
theorem d_Rb_deciderOf_6 : decode b_Rb_deciderOf 6 = .ok (.iload_n 1, 1) := by decide +kernel
theorem d_Rb_deciderOf_7 : decode b_Rb_deciderOf 7 = .ok (.bipush 64, 2) := by decide +kernel
theorem d_Rb_deciderOf_9 : decode b_Rb_deciderOf 9 = .ok (.irem, 1) := by decide +kernel
theorem d_Rb_deciderOf_10 : decode b_Rb_deciderOf 10 = .ok (.lshl, 1) := by decide +kernel
theorem d_Rb_deciderOf_11 : decode b_Rb_deciderOf 11 = .ok (.lstore_n 3, 1) := by decide +kernel
theorem d_Rb_deciderOf_12 : decode b_Rb_deciderOf 12 = .ok (.iconst 0, 1) := by decide +kernel
theorem d_Rb_deciderOf_13 : decode b_Rb_deciderOf 13 = .ok (.istore 5, 2) := by decide +kernel
theorem d_Rb_deciderOf_15 : decode b_Rb_deciderOf 15 = .ok (.iload 5, 2) := by decide +kernel
theorem d_Rb_deciderOf_17 : decode b_Rb_deciderOf 17 = .ok (.aload_n 0, 1) := by decide +kernel
theorem d_Rb_deciderOf_18 : decode b_Rb_deciderOf 18 = .ok (.getfield 17, 3) := by decide +kernel
theorem d_Rb_deciderOf_21 : decode b_Rb_deciderOf 21 = .ok (.if_icmp .ge 38, 3) := by decide +kernel
theorem d_Rb_deciderOf_24 : decode b_Rb_deciderOf 24 = .ok (.aload_n 0, 1) := by decide +kernel
theorem d_Rb_deciderOf_25 : decode b_Rb_deciderOf 25 = .ok (.iload 5, 2) := by decide +kernel
theorem d_Rb_deciderOf_27 : decode b_Rb_deciderOf 27 = .ok (.invokevirtual 25, 3) := by decide +kernel
theorem d_Rb_deciderOf_30 : decode b_Rb_deciderOf 30 = .ok (.astore 6, 2) := by decide +kernel
theorem d_Rb_deciderOf_32 : decode b_Rb_deciderOf 32 = .ok (.aload 6, 2) := by decide +kernel
theorem d_Rb_deciderOf_34 : decode b_Rb_deciderOf 34 = .ok (.ifnull 19, 3) := by decide +kernel
theorem d_Rb_deciderOf_37 : decode b_Rb_deciderOf 37 = .ok (.aload 6, 2) := by decide +kernel
theorem d_Rb_deciderOf_39 : decode b_Rb_deciderOf 39 = .ok (.iload_n 2, 1) := by decide +kernel
theorem d_Rb_deciderOf_40 : decode b_Rb_deciderOf 40 = .ok (.invokevirtual 43, 3) := by decide +kernel
theorem d_Rb_deciderOf_43 : decode b_Rb_deciderOf 43 = .ok (.lload_n 3, 1) := by decide +kernel
theorem d_Rb_deciderOf_44 : decode b_Rb_deciderOf 44 = .ok (.land, 1) := by decide +kernel
theorem d_Rb_deciderOf_45 : decode b_Rb_deciderOf 45 = .ok (.lconst 0, 1) := by decide +kernel
theorem d_Rb_deciderOf_46 : decode b_Rb_deciderOf 46 = .ok (.lcmp, 1) := by decide +kernel
theorem d_Rb_deciderOf_47 : decode b_Rb_deciderOf 47 = .ok (.ifCond .eq 6, 3) := by decide +kernel
theorem d_Rb_deciderOf_50 : decode b_Rb_deciderOf 50 = .ok (.aload 6, 2) := by decide +kernel
theorem d_Rb_deciderOf_52 : decode b_Rb_deciderOf 52 = .ok (.areturn, 1) := by decide +kernel
theorem d_Rb_deciderOf_53 : decode b_Rb_deciderOf 53 = .ok (.iinc 5 1, 3) := by decide +kernel
theorem d_Rb_deciderOf_56 : decode b_Rb_deciderOf 56 = .ok (.goto (-41), 3) := by decide +kernel
theorem d_Rb_deciderOf_59 : decode b_Rb_deciderOf 59 = .ok (.aconst_null, 1) := by decide +kernel
theorem d_Rb_deciderOf_60 : decode b_Rb_deciderOf 60 = .ok (.areturn, 1) := by decide +kernel
theorem d_Rb_allowedFrom_0 : decode b_Rb_allowedFrom 0 = .ok (.lload_n 2, 1) := by decide +kernel
theorem d_Rb_allowedFrom_1 : decode b_Rb_allowedFrom 1 = .ok (.lstore 5, 2) := by decide +kernel
theorem d_Rb_allowedFrom_3 : decode b_Rb_allowedFrom 3 = .ok (.lconst 0, 1) := by decide +kernel
theorem d_Rb_allowedFrom_4 : decode b_Rb_allowedFrom 4 = .ok (.lstore 7, 2) := by decide +kernel
theorem d_Rb_allowedFrom_6 : decode b_Rb_allowedFrom 6 = .ok (.iload_n 1, 1) := by decide +kernel
theorem d_Rb_allowedFrom_7 : decode b_Rb_allowedFrom 7 = .ok (.istore 9, 2) := by decide +kernel
theorem d_Rb_allowedFrom_9 : decode b_Rb_allowedFrom 9 = .ok (.iload 9, 2) := by decide +kernel
theorem d_Rb_allowedFrom_11 : decode b_Rb_allowedFrom 11 = .ok (.aload_n 0, 1) := by decide +kernel
theorem d_Rb_allowedFrom_12 : decode b_Rb_allowedFrom 12 = .ok (.getfield 17, 3) := by decide +kernel
theorem d_Rb_allowedFrom_15 : decode b_Rb_allowedFrom 15 = .ok (.if_icmp .ge 71, 3) := by decide +kernel
theorem d_Rb_allowedFrom_18 : decode b_Rb_allowedFrom 18 = .ok (.lload 5, 2) := by decide +kernel
theorem d_Rb_allowedFrom_20 : decode b_Rb_allowedFrom 20 = .ok (.lconst 0, 1) := by decide +kernel
theorem d_Rb_allowedFrom_21 : decode b_Rb_allowedFrom 21 = .ok (.lcmp, 1) := by decide +kernel
theorem d_Rb_allowedFrom_22 : decode b_Rb_allowedFrom 22 = .ok (.ifCond .eq 64, 3) := by decide +kernel
theorem d_Rb_allowedFrom_25 : decode b_Rb_allowedFrom 25 = .ok (.aload_n 0, 1) := by decide +kernel
theorem d_Rb_allowedFrom_26 : decode b_Rb_allowedFrom 26 = .ok (.iload 9, 2) := by decide +kernel
theorem d_Rb_allowedFrom_28 : decode b_Rb_allowedFrom 28 = .ok (.invokevirtual 25, 3) := by decide +kernel
theorem d_Rb_allowedFrom_31 : decode b_Rb_allowedFrom 31 = .ok (.astore 10, 2) := by decide +kernel
theorem d_Rb_allowedFrom_33 : decode b_Rb_allowedFrom 33 = .ok (.aload 10, 2) := by decide +kernel
theorem d_Rb_allowedFrom_35 : decode b_Rb_allowedFrom 35 = .ok (.ifnull 45, 3) := by decide +kernel
theorem d_Rb_allowedFrom_38 : decode b_Rb_allowedFrom 38 = .ok (.lload 5, 2) := by decide +kernel
theorem d_Rb_allowedFrom_40 : decode b_Rb_allowedFrom 40 = .ok (.aload 10, 2) := by decide +kernel
theorem d_Rb_allowedFrom_42 : decode b_Rb_allowedFrom 42 = .ok (.iload 4, 2) := by decide +kernel
theorem d_Rb_allowedFrom_44 : decode b_Rb_allowedFrom 44 = .ok (.invokevirtual 43, 3) := by decide +kernel
theorem d_Rb_allowedFrom_47 : decode b_Rb_allowedFrom 47 = .ok (.land, 1) := by decide +kernel
theorem d_Rb_allowedFrom_48 : decode b_Rb_allowedFrom 48 = .ok (.lstore 11, 2) := by decide +kernel
theorem d_Rb_allowedFrom_50 : decode b_Rb_allowedFrom 50 = .ok (.lload 7, 2) := by decide +kernel
theorem d_Rb_allowedFrom_52 : decode b_Rb_allowedFrom 52 = .ok (.aload 10, 2) := by decide +kernel
theorem d_Rb_allowedFrom_54 : decode b_Rb_allowedFrom 54 = .ok (.getfield 47, 3) := by decide +kernel
theorem d_Rb_allowedFrom_57 : decode b_Rb_allowedFrom 57 = .ok (.ifCond .eq 7, 3) := by decide +kernel
theorem d_Rb_allowedFrom_60 : decode b_Rb_allowedFrom 60 = .ok (.lconst 0, 1) := by decide +kernel
theorem d_Rb_allowedFrom_61 : decode b_Rb_allowedFrom 61 = .ok (.goto 5, 3) := by decide +kernel
theorem d_Rb_allowedFrom_64 : decode b_Rb_allowedFrom 64 = .ok (.lload 11, 2) := by decide +kernel
theorem d_Rb_allowedFrom_66 : decode b_Rb_allowedFrom 66 = .ok (.lor, 1) := by decide +kernel
theorem d_Rb_allowedFrom_67 : decode b_Rb_allowedFrom 67 = .ok (.lstore 7, 2) := by decide +kernel
theorem d_Rb_allowedFrom_69 : decode b_Rb_allowedFrom 69 = .ok (.lload 5, 2) := by decide +kernel
theorem d_Rb_allowedFrom_71 : decode b_Rb_allowedFrom 71 = .ok (.lload 11, 2) := by decide +kernel
theorem d_Rb_allowedFrom_73 : decode b_Rb_allowedFrom 73 = .ok (.ldc2_w 51, 3) := by decide +kernel
theorem d_Rb_allowedFrom_76 : decode b_Rb_allowedFrom 76 = .ok (.lxor, 1) := by decide +kernel
theorem d_Rb_allowedFrom_77 : decode b_Rb_allowedFrom 77 = .ok (.land, 1) := by decide +kernel
theorem d_Rb_allowedFrom_78 : decode b_Rb_allowedFrom 78 = .ok (.lstore 5, 2) := by decide +kernel
theorem d_Rb_allowedFrom_80 : decode b_Rb_allowedFrom 80 = .ok (.iinc 9 1, 3) := by decide +kernel
theorem d_Rb_allowedFrom_83 : decode b_Rb_allowedFrom 83 = .ok (.goto (-74), 3) := by decide +kernel
theorem d_Rb_allowedFrom_86 : decode b_Rb_allowedFrom 86 = .ok (.lload 7, 2) := by decide +kernel
theorem d_Rb_allowedFrom_88 : decode b_Rb_allowedFrom 88 = .ok (.lreturn, 1) := by decide +kernel
theorem d_Rb_decidedAt_0 : decode b_Rb_decidedAt 0 = .ok (.aload_n 0, 1) := by decide +kernel
theorem d_Rb_decidedAt_1 : decode b_Rb_decidedAt 1 = .ok (.iload_n 1, 1) := by decide +kernel
theorem d_Rb_decidedAt_2 : decode b_Rb_decidedAt 2 = .ok (.iload_n 2, 1) := by decide +kernel
theorem d_Rb_decidedAt_3 : decode b_Rb_decidedAt 3 = .ok (.invokevirtual 53, 3) := by decide +kernel
theorem d_Rb_decidedAt_6 : decode b_Rb_decidedAt 6 = .ok (.lstore_n 3, 1) := by decide +kernel
theorem d_Rb_decidedAt_7 : decode b_Rb_decidedAt 7 = .ok (.iconst 0, 1) := by decide +kernel
theorem d_Rb_decidedAt_8 : decode b_Rb_decidedAt 8 = .ok (.istore 5, 2) := by decide +kernel
theorem d_Rb_decidedAt_10 : decode b_Rb_decidedAt 10 = .ok (.iload 5, 2) := by decide +kernel
theorem d_Rb_decidedAt_12 : decode b_Rb_decidedAt 12 = .ok (.iload_n 1, 1) := by decide +kernel
theorem d_Rb_decidedAt_13 : decode b_Rb_decidedAt 13 = .ok (.if_icmp .ge 29, 3) := by decide +kernel
theorem d_Rb_decidedAt_16 : decode b_Rb_decidedAt 16 = .ok (.lload_n 3, 1) := by decide +kernel
theorem d_Rb_decidedAt_17 : decode b_Rb_decidedAt 17 = .ok (.lconst 0, 1) := by decide +kernel
theorem d_Rb_decidedAt_18 : decode b_Rb_decidedAt 18 = .ok (.lcmp, 1) := by decide +kernel
theorem d_Rb_decidedAt_19 : decode b_Rb_decidedAt 19 = .ok (.ifCond .eq 23, 3) := by decide +kernel
theorem d_Rb_decidedAt_22 : decode b_Rb_decidedAt 22 = .ok (.lload_n 3, 1) := by decide +kernel
theorem d_Rb_decidedAt_23 : decode b_Rb_decidedAt 23 = .ok (.aload_n 0, 1) := by decide +kernel
theorem d_Rb_decidedAt_24 : decode b_Rb_decidedAt 24 = .ok (.iload 5, 2) := by decide +kernel
theorem d_Rb_decidedAt_26 : decode b_Rb_decidedAt 26 = .ok (.iload_n 2, 1) := by decide +kernel
theorem d_Rb_decidedAt_27 : decode b_Rb_decidedAt 27 = .ok (.invokevirtual 53, 3) := by decide +kernel
theorem d_Rb_decidedAt_30 : decode b_Rb_decidedAt 30 = .ok (.ldc2_w 51, 3) := by decide +kernel
theorem d_Rb_decidedAt_33 : decode b_Rb_decidedAt 33 = .ok (.lxor, 1) := by decide +kernel
theorem d_Rb_decidedAt_34 : decode b_Rb_decidedAt 34 = .ok (.land, 1) := by decide +kernel
theorem d_Rb_decidedAt_35 : decode b_Rb_decidedAt 35 = .ok (.lstore_n 3, 1) := by decide +kernel
theorem d_Rb_decidedAt_36 : decode b_Rb_decidedAt 36 = .ok (.iinc 5 1, 3) := by decide +kernel
theorem d_Rb_decidedAt_39 : decode b_Rb_decidedAt 39 = .ok (.goto (-29), 3) := by decide +kernel
theorem d_Rb_decidedAt_42 : decode b_Rb_decidedAt 42 = .ok (.lload_n 3, 1) := by decide +kernel
theorem d_Rb_decidedAt_43 : decode b_Rb_decidedAt 43 = .ok (.lreturn, 1) := by decide +kernel
theorem d_Rb_wordAt_0 : decode b_Rb_wordAt 0 = .ok (.aload_n 0, 1) := by decide +kernel
theorem d_Rb_wordAt_1 : decode b_Rb_wordAt 1 = .ok (.iload_n 1, 1) := by decide +kernel
theorem d_Rb_wordAt_2 : decode b_Rb_wordAt 2 = .ok (.invokevirtual 25, 3) := by decide +kernel
theorem d_Rb_wordAt_5 : decode b_Rb_wordAt 5 = .ok (.astore_n 3, 1) := by decide +kernel
theorem d_Rb_wordAt_6 : decode b_Rb_wordAt 6 = .ok (.aload_n 3, 1) := by decide +kernel
theorem d_Rb_wordAt_7 : decode b_Rb_wordAt 7 = .ok (.ifnonnull 7, 3) := by decide +kernel
theorem d_Rb_wordAt_10 : decode b_Rb_wordAt 10 = .ok (.lconst 0, 1) := by decide +kernel
theorem d_Rb_wordAt_11 : decode b_Rb_wordAt 11 = .ok (.goto 8, 3) := by decide +kernel
theorem d_Rb_wordAt_14 : decode b_Rb_wordAt 14 = .ok (.aload_n 3, 1) := by decide +kernel
theorem d_Rb_wordAt_15 : decode b_Rb_wordAt 15 = .ok (.iload_n 2, 1) := by decide +kernel
theorem d_Rb_wordAt_16 : decode b_Rb_wordAt 16 = .ok (.invokevirtual 43, 3) := by decide +kernel
theorem d_Rb_wordAt_19 : decode b_Rb_wordAt 19 = .ok (.lreturn, 1) := by decide +kernel
theorem d_Rb_turnedAt_0 : decode b_Rb_turnedAt 0 = .ok (.aload_n 0, 1) := by decide +kernel
theorem d_Rb_turnedAt_1 : decode b_Rb_turnedAt 1 = .ok (.iload_n 1, 1) := by decide +kernel
theorem d_Rb_turnedAt_2 : decode b_Rb_turnedAt 2 = .ok (.invokevirtual 25, 3) := by decide +kernel
theorem d_Rb_turnedAt_5 : decode b_Rb_turnedAt 5 = .ok (.astore_n 3, 1) := by decide +kernel
theorem d_Rb_turnedAt_6 : decode b_Rb_turnedAt 6 = .ok (.aload_n 3, 1) := by decide +kernel
theorem d_Rb_turnedAt_7 : decode b_Rb_turnedAt 7 = .ok (.ifnonnull 5, 3) := by decide +kernel
theorem d_Rb_turnedAt_10 : decode b_Rb_turnedAt 10 = .ok (.lconst 0, 1) := by decide +kernel
theorem d_Rb_turnedAt_11 : decode b_Rb_turnedAt 11 = .ok (.lreturn, 1) := by decide +kernel
theorem d_Rb_turnedAt_12 : decode b_Rb_turnedAt 12 = .ok (.aload_n 0, 1) := by decide +kernel
theorem d_Rb_turnedAt_13 : decode b_Rb_turnedAt 13 = .ok (.iload_n 1, 1) := by decide +kernel
theorem d_Rb_turnedAt_14 : decode b_Rb_turnedAt 14 = .ok (.iload_n 2, 1) := by decide +kernel
theorem d_Rb_turnedAt_15 : decode b_Rb_turnedAt 15 = .ok (.invokevirtual 57, 3) := by decide +kernel
theorem d_Rb_turnedAt_18 : decode b_Rb_turnedAt 18 = .ok (.lstore 4, 2) := by decide +kernel
theorem d_Rb_turnedAt_20 : decode b_Rb_turnedAt 20 = .ok (.aload_n 0, 1) := by decide +kernel
theorem d_Rb_turnedAt_21 : decode b_Rb_turnedAt 21 = .ok (.iload_n 1, 1) := by decide +kernel
theorem d_Rb_turnedAt_22 : decode b_Rb_turnedAt 22 = .ok (.iconst 1, 1) := by decide +kernel
theorem d_Rb_turnedAt_23 : decode b_Rb_turnedAt 23 = .ok (.iadd, 1) := by decide +kernel
theorem d_Rb_turnedAt_24 : decode b_Rb_turnedAt 24 = .ok (.lload 4, 2) := by decide +kernel
theorem d_Rb_turnedAt_26 : decode b_Rb_turnedAt 26 = .ok (.iload_n 2, 1) := by decide +kernel
theorem d_Rb_turnedAt_27 : decode b_Rb_turnedAt 27 = .ok (.invokevirtual 60, 3) := by decide +kernel
theorem d_Rb_turnedAt_30 : decode b_Rb_turnedAt 30 = .ok (.lstore 6, 2) := by decide +kernel
theorem d_Rb_turnedAt_32 : decode b_Rb_turnedAt 32 = .ok (.aload_n 3, 1) := by decide +kernel
theorem d_Rb_turnedAt_33 : decode b_Rb_turnedAt 33 = .ok (.getfield 47, 3) := by decide +kernel
theorem d_Rb_turnedAt_36 : decode b_Rb_turnedAt 36 = .ok (.ifCond .eq 8, 3) := by decide +kernel
theorem d_Rb_turnedAt_39 : decode b_Rb_turnedAt 39 = .ok (.lload 6, 2) := by decide +kernel
theorem d_Rb_turnedAt_41 : decode b_Rb_turnedAt 41 = .ok (.goto 12, 3) := by decide +kernel
theorem d_Rb_turnedAt_44 : decode b_Rb_turnedAt 44 = .ok (.lload 4, 2) := by decide +kernel
theorem d_Rb_turnedAt_46 : decode b_Rb_turnedAt 46 = .ok (.lload 6, 2) := by decide +kernel
theorem d_Rb_turnedAt_48 : decode b_Rb_turnedAt 48 = .ok (.ldc2_w 51, 3) := by decide +kernel
theorem d_Rb_turnedAt_51 : decode b_Rb_turnedAt 51 = .ok (.lxor, 1) := by decide +kernel
theorem d_Rb_turnedAt_52 : decode b_Rb_turnedAt 52 = .ok (.land, 1) := by decide +kernel
theorem d_Rb_turnedAt_53 : decode b_Rb_turnedAt 53 = .ok (.lreturn, 1) := by decide +kernel
theorem d_Rb_idleRank_0 : decode b_Rb_idleRank 0 = .ok (.lload_n 2, 1) := by decide +kernel
theorem d_Rb_idleRank_1 : decode b_Rb_idleRank 1 = .ok (.lstore 5, 2) := by decide +kernel
theorem d_Rb_idleRank_3 : decode b_Rb_idleRank 3 = .ok (.iconst 0, 1) := by decide +kernel
theorem d_Rb_idleRank_4 : decode b_Rb_idleRank 4 = .ok (.istore 7, 2) := by decide +kernel
theorem d_Rb_idleRank_6 : decode b_Rb_idleRank 6 = .ok (.iconst 0, 1) := by decide +kernel
theorem d_Rb_idleRank_7 : decode b_Rb_idleRank 7 = .ok (.istore 8, 2) := by decide +kernel
theorem d_Rb_idleRank_9 : decode b_Rb_idleRank 9 = .ok (.iload 8, 2) := by decide +kernel
theorem d_Rb_idleRank_11 : decode b_Rb_idleRank 11 = .ok (.aload_n 0, 1) := by decide +kernel
theorem d_Rb_idleRank_12 : decode b_Rb_idleRank 12 = .ok (.getfield 17, 3) := by decide +kernel
theorem d_Rb_idleRank_15 : decode b_Rb_idleRank 15 = .ok (.if_icmp .ge 53, 3) := by decide +kernel
theorem d_Rb_idleRank_18 : decode b_Rb_idleRank 18 = .ok (.lload 5, 2) := by decide +kernel
theorem d_Rb_idleRank_20 : decode b_Rb_idleRank 20 = .ok (.lconst 0, 1) := by decide +kernel
theorem d_Rb_idleRank_21 : decode b_Rb_idleRank 21 = .ok (.lcmp, 1) := by decide +kernel
theorem d_Rb_idleRank_22 : decode b_Rb_idleRank 22 = .ok (.ifCond .eq 46, 3) := by decide +kernel
theorem d_Rb_idleRank_25 : decode b_Rb_idleRank 25 = .ok (.aload_n 0, 1) := by decide +kernel
theorem d_Rb_idleRank_26 : decode b_Rb_idleRank 26 = .ok (.iload 8, 2) := by decide +kernel
theorem d_Rb_idleRank_28 : decode b_Rb_idleRank 28 = .ok (.invokevirtual 25, 3) := by decide +kernel
theorem d_Rb_idleRank_31 : decode b_Rb_idleRank 31 = .ok (.astore 9, 2) := by decide +kernel
theorem d_Rb_idleRank_33 : decode b_Rb_idleRank 33 = .ok (.aload 9, 2) := by decide +kernel
theorem d_Rb_idleRank_35 : decode b_Rb_idleRank 35 = .ok (.ifnull 27, 3) := by decide +kernel
theorem d_Rb_idleRank_38 : decode b_Rb_idleRank 38 = .ok (.aload 9, 2) := by decide +kernel
theorem d_Rb_idleRank_40 : decode b_Rb_idleRank 40 = .ok (.iload_n 1, 1) := by decide +kernel
theorem d_Rb_idleRank_41 : decode b_Rb_idleRank 41 = .ok (.invokevirtual 64, 3) := by decide +kernel
theorem d_Rb_idleRank_44 : decode b_Rb_idleRank 44 = .ok (.istore 7, 2) := by decide +kernel
theorem d_Rb_idleRank_46 : decode b_Rb_idleRank 46 = .ok (.lload 5, 2) := by decide +kernel
theorem d_Rb_idleRank_48 : decode b_Rb_idleRank 48 = .ok (.aload 9, 2) := by decide +kernel
theorem d_Rb_idleRank_50 : decode b_Rb_idleRank 50 = .ok (.iload 4, 2) := by decide +kernel
theorem d_Rb_idleRank_52 : decode b_Rb_idleRank 52 = .ok (.invokevirtual 43, 3) := by decide +kernel
theorem d_Rb_idleRank_55 : decode b_Rb_idleRank 55 = .ok (.ldc2_w 51, 3) := by decide +kernel
theorem d_Rb_idleRank_58 : decode b_Rb_idleRank 58 = .ok (.lxor, 1) := by decide +kernel
theorem d_Rb_idleRank_59 : decode b_Rb_idleRank 59 = .ok (.land, 1) := by decide +kernel
theorem d_Rb_idleRank_60 : decode b_Rb_idleRank 60 = .ok (.lstore 5, 2) := by decide +kernel
theorem d_Rb_idleRank_62 : decode b_Rb_idleRank 62 = .ok (.iinc 8 1, 3) := by decide +kernel
theorem d_Rb_idleRank_65 : decode b_Rb_idleRank 65 = .ok (.goto (-56), 3) := by decide +kernel
theorem d_Rb_idleRank_68 : decode b_Rb_idleRank 68 = .ok (.lload 5, 2) := by decide +kernel
theorem d_Rb_idleRank_70 : decode b_Rb_idleRank 70 = .ok (.lconst 0, 1) := by decide +kernel
theorem d_Rb_idleRank_71 : decode b_Rb_idleRank 71 = .ok (.lcmp, 1) := by decide +kernel
theorem d_Rb_idleRank_72 : decode b_Rb_idleRank 72 = .ok (.ifCond .ne 8, 3) := by decide +kernel
theorem d_Rb_idleRank_75 : decode b_Rb_idleRank 75 = .ok (.iload 7, 2) := by decide +kernel
theorem d_Rb_idleRank_77 : decode b_Rb_idleRank 77 = .ok (.goto 5, 3) := by decide +kernel
theorem d_Rb_idleRank_80 : decode b_Rb_idleRank 80 = .ok (.bipush 10, 2) := by decide +kernel
theorem d_Rb_idleRank_82 : decode b_Rb_idleRank 82 = .ok (.ireturn, 1) := by decide +kernel
theorem d_De_init_0 : decode b_De_init 0 = .ok (.aload_n 0, 1) := by decide +kernel
theorem d_De_init_1 : decode b_De_init 1 = .ok (.invokespecial 1, 3) := by decide +kernel
theorem d_De_init_4 : decode b_De_init 4 = .ok (.aload_n 0, 1) := by decide +kernel
theorem d_De_init_5 : decode b_De_init 5 = .ok (.new 7, 3) := by decide +kernel
theorem d_De_init_8 : decode b_De_init 8 = .ok (.dup, 1) := by decide +kernel
theorem d_De_init_9 : decode b_De_init 9 = .ok (.invokespecial 9, 3) := by decide +kernel
theorem d_De_init_12 : decode b_De_init 12 = .ok (.putfield 10, 3) := by decide +kernel
theorem d_De_init_15 : decode b_De_init 15 = .ok (.aload_n 0, 1) := by decide +kernel
theorem d_De_init_16 : decode b_De_init 16 = .ok (.new 16, 3) := by decide +kernel
theorem d_De_init_19 : decode b_De_init 19 = .ok (.dup, 1) := by decide +kernel
theorem d_De_init_20 : decode b_De_init 20 = .ok (.invokespecial 18, 3) := by decide +kernel
theorem d_De_init_23 : decode b_De_init 23 = .ok (.putfield 19, 3) := by decide +kernel
theorem d_De_init_26 : decode b_De_init 26 = .ok (.return_, 1) := by decide +kernel
theorem d_De_member_0 : decode b_De_member 0 = .ok (.iload_n 1, 1) := by decide +kernel
theorem d_De_member_1 : decode b_De_member 1 = .ok (.bipush 8, 2) := by decide +kernel
theorem d_De_member_3 : decode b_De_member 3 = .ok (.invokestatic 23, 3) := by decide +kernel
theorem d_De_member_6 : decode b_De_member 6 = .ok (.ifCond .eq 12, 3) := by decide +kernel
theorem d_De_member_9 : decode b_De_member 9 = .ok (.iload_n 2, 1) := by decide +kernel
theorem d_De_member_10 : decode b_De_member 10 = .ok (.bipush 8, 2) := by decide +kernel
theorem d_De_member_12 : decode b_De_member 12 = .ok (.invokestatic 23, 3) := by decide +kernel
theorem d_De_member_15 : decode b_De_member 15 = .ok (.ifCond .ne 5, 3) := by decide +kernel
theorem d_De_member_18 : decode b_De_member 18 = .ok (.iconst (-1), 1) := by decide +kernel
theorem d_De_member_19 : decode b_De_member 19 = .ok (.ireturn, 1) := by decide +kernel
theorem d_De_member_20 : decode b_De_member 20 = .ok (.aload_n 0, 1) := by decide +kernel
theorem d_De_member_21 : decode b_De_member 21 = .ok (.getfield 10, 3) := by decide +kernel
theorem d_De_member_24 : decode b_De_member 24 = .ok (.iload_n 1, 1) := by decide +kernel
theorem d_De_member_25 : decode b_De_member 25 = .ok (.iload_n 2, 1) := by decide +kernel
theorem d_De_member_26 : decode b_De_member 26 = .ok (.iload_n 3, 1) := by decide +kernel
theorem d_De_member_27 : decode b_De_member 27 = .ok (.invokevirtual 27, 3) := by decide +kernel
theorem d_De_member_30 : decode b_De_member 30 = .ok (.ifCond .eq 7, 3) := by decide +kernel
theorem d_De_member_33 : decode b_De_member 33 = .ok (.iconst 1, 1) := by decide +kernel
theorem d_De_member_34 : decode b_De_member 34 = .ok (.goto 4, 3) := by decide +kernel
theorem d_De_member_37 : decode b_De_member 37 = .ok (.iconst 0, 1) := by decide +kernel
theorem d_De_member_38 : decode b_De_member 38 = .ok (.ireturn, 1) := by decide +kernel
theorem d_De_condition_0 : decode b_De_condition 0 = .ok (.aload_n 0, 1) := by decide +kernel
theorem d_De_condition_1 : decode b_De_condition 1 = .ok (.getfield 10, 3) := by decide +kernel
theorem d_De_condition_4 : decode b_De_condition 4 = .ok (.iload_n 1, 1) := by decide +kernel
theorem d_De_condition_5 : decode b_De_condition 5 = .ok (.iload_n 2, 1) := by decide +kernel
theorem d_De_condition_6 : decode b_De_condition 6 = .ok (.iload_n 3, 1) := by decide +kernel
theorem d_De_condition_7 : decode b_De_condition 7 = .ok (.iload 4, 2) := by decide +kernel
theorem d_De_condition_9 : decode b_De_condition 9 = .ok (.invokevirtual 31, 3) := by decide +kernel
theorem d_De_condition_12 : decode b_De_condition 12 = .ok (.ifCond .ne 5, 3) := by decide +kernel
theorem d_De_condition_15 : decode b_De_condition 15 = .ok (.iconst (-1), 1) := by decide +kernel
theorem d_De_condition_16 : decode b_De_condition 16 = .ok (.ireturn, 1) := by decide +kernel
theorem d_De_condition_17 : decode b_De_condition 17 = .ok (.aload_n 0, 1) := by decide +kernel
theorem d_De_condition_18 : decode b_De_condition 18 = .ok (.getfield 10, 3) := by decide +kernel
theorem d_De_condition_21 : decode b_De_condition 21 = .ok (.iload_n 1, 1) := by decide +kernel
theorem d_De_condition_22 : decode b_De_condition 22 = .ok (.iload_n 2, 1) := by decide +kernel
theorem d_De_condition_23 : decode b_De_condition 23 = .ok (.iload_n 3, 1) := by decide +kernel
theorem d_De_condition_24 : decode b_De_condition 24 = .ok (.iload 4, 2) := by decide +kernel
theorem d_De_condition_26 : decode b_De_condition 26 = .ok (.invokevirtual 35, 3) := by decide +kernel
theorem d_De_condition_29 : decode b_De_condition 29 = .ok (.ireturn, 1) := by decide +kernel
theorem d_De_rule_0 : decode b_De_rule 0 = .ok (.aload_n 0, 1) := by decide +kernel
theorem d_De_rule_1 : decode b_De_rule 1 = .ok (.getfield 10, 3) := by decide +kernel
theorem d_De_rule_4 : decode b_De_rule 4 = .ok (.iload_n 3, 1) := by decide +kernel
theorem d_De_rule_5 : decode b_De_rule 5 = .ok (.invokevirtual 39, 3) := by decide +kernel
theorem d_De_rule_8 : decode b_De_rule 8 = .ok (.astore 4, 2) := by decide +kernel
theorem d_De_rule_10 : decode b_De_rule 10 = .ok (.aload 4, 2) := by decide +kernel
theorem d_De_rule_12 : decode b_De_rule 12 = .ok (.ifnull 12, 3) := by decide +kernel
theorem d_De_rule_15 : decode b_De_rule 15 = .ok (.iload_n 1, 1) := by decide +kernel
theorem d_De_rule_16 : decode b_De_rule 16 = .ok (.bipush 10, 2) := by decide +kernel
theorem d_De_rule_18 : decode b_De_rule 18 = .ok (.invokestatic 23, 3) := by decide +kernel
theorem d_De_rule_21 : decode b_De_rule 21 = .ok (.ifCond .ne 5, 3) := by decide +kernel
theorem d_De_rule_24 : decode b_De_rule 24 = .ok (.iconst (-1), 1) := by decide +kernel
theorem d_De_rule_25 : decode b_De_rule 25 = .ok (.ireturn, 1) := by decide +kernel
theorem d_De_rule_26 : decode b_De_rule 26 = .ok (.aload_n 0, 1) := by decide +kernel
theorem d_De_rule_27 : decode b_De_rule 27 = .ok (.getfield 19, 3) := by decide +kernel
theorem d_De_rule_30 : decode b_De_rule 30 = .ok (.iload_n 1, 1) := by decide +kernel
theorem d_De_rule_31 : decode b_De_rule 31 = .ok (.iload_n 2, 1) := by decide +kernel
theorem d_De_rule_32 : decode b_De_rule 32 = .ok (.aload 4, 2) := by decide +kernel
theorem d_De_rule_34 : decode b_De_rule 34 = .ok (.invokevirtual 43, 3) := by decide +kernel
theorem d_De_rule_37 : decode b_De_rule 37 = .ok (.ireturn, 1) := by decide +kernel
theorem d_De_drop_0 : decode b_De_drop 0 = .ok (.aload_n 0, 1) := by decide +kernel
theorem d_De_drop_1 : decode b_De_drop 1 = .ok (.getfield 19, 3) := by decide +kernel
theorem d_De_drop_4 : decode b_De_drop 4 = .ok (.iload_n 1, 1) := by decide +kernel
theorem d_De_drop_5 : decode b_De_drop 5 = .ok (.invokevirtual 46, 3) := by decide +kernel
theorem d_De_drop_8 : decode b_De_drop 8 = .ok (.istore_n 2, 1) := by decide +kernel
theorem d_De_drop_9 : decode b_De_drop 9 = .ok (.iload_n 2, 1) := by decide +kernel
theorem d_De_drop_10 : decode b_De_drop 10 = .ok (.iconst (-1), 1) := by decide +kernel
theorem d_De_drop_11 : decode b_De_drop 11 = .ok (.if_icmp .ne 5, 3) := by decide +kernel
theorem d_De_drop_14 : decode b_De_drop 14 = .ok (.iconst (-1), 1) := by decide +kernel
theorem d_De_drop_15 : decode b_De_drop 15 = .ok (.ireturn, 1) := by decide +kernel
theorem d_De_drop_16 : decode b_De_drop 16 = .ok (.aload_n 0, 1) := by decide +kernel
theorem d_De_drop_17 : decode b_De_drop 17 = .ok (.getfield 19, 3) := by decide +kernel
theorem d_De_drop_20 : decode b_De_drop 20 = .ok (.iload_n 2, 1) := by decide +kernel
theorem d_De_drop_21 : decode b_De_drop 21 = .ok (.iload_n 1, 1) := by decide +kernel
theorem d_De_drop_22 : decode b_De_drop 22 = .ok (.invokevirtual 50, 3) := by decide +kernel
theorem d_De_drop_25 : decode b_De_drop 25 = .ok (.ireturn, 1) := by decide +kernel
theorem d_De_may_0 : decode b_De_may 0 = .ok (.iload_n 1, 1) := by decide +kernel
theorem d_De_may_1 : decode b_De_may 1 = .ok (.bipush 8, 2) := by decide +kernel
theorem d_De_may_3 : decode b_De_may 3 = .ok (.invokestatic 23, 3) := by decide +kernel
theorem d_De_may_6 : decode b_De_may 6 = .ok (.ifCond .eq 48, 3) := by decide +kernel
theorem d_De_may_9 : decode b_De_may 9 = .ok (.iload_n 2, 1) := by decide +kernel
theorem d_De_may_10 : decode b_De_may 10 = .ok (.iconst 4, 1) := by decide +kernel
theorem d_De_may_11 : decode b_De_may 11 = .ok (.invokestatic 23, 3) := by decide +kernel
theorem d_De_may_14 : decode b_De_may 14 = .ok (.ifCond .eq 40, 3) := by decide +kernel
theorem d_De_may_17 : decode b_De_may 17 = .ok (.iload_n 3, 1) := by decide +kernel
theorem d_De_may_18 : decode b_De_may 18 = .ok (.bipush 6, 2) := by decide +kernel
theorem d_De_may_20 : decode b_De_may 20 = .ok (.invokestatic 23, 3) := by decide +kernel
theorem d_De_may_23 : decode b_De_may 23 = .ok (.ifCond .eq 31, 3) := by decide +kernel
theorem d_De_may_26 : decode b_De_may 26 = .ok (.iload 4, 2) := by decide +kernel
theorem d_De_may_28 : decode b_De_may 28 = .ok (.iconst 4, 1) := by decide +kernel
theorem d_De_may_29 : decode b_De_may 29 = .ok (.invokestatic 23, 3) := by decide +kernel
theorem d_De_may_32 : decode b_De_may 32 = .ok (.ifCond .eq 22, 3) := by decide +kernel
theorem d_De_may_35 : decode b_De_may 35 = .ok (.iload 5, 2) := by decide +kernel
theorem d_De_may_37 : decode b_De_may 37 = .ok (.bipush 8, 2) := by decide +kernel
theorem d_De_may_39 : decode b_De_may 39 = .ok (.invokestatic 23, 3) := by decide +kernel
theorem d_De_may_42 : decode b_De_may 42 = .ok (.ifCond .eq 12, 3) := by decide +kernel
theorem d_De_may_45 : decode b_De_may 45 = .ok (.iload 6, 2) := by decide +kernel
theorem d_De_may_47 : decode b_De_may 47 = .ok (.iconst 2, 1) := by decide +kernel
theorem d_De_may_48 : decode b_De_may 48 = .ok (.invokestatic 23, 3) := by decide +kernel
theorem d_De_may_51 : decode b_De_may 51 = .ok (.ifCond .ne 5, 3) := by decide +kernel
theorem d_De_may_54 : decode b_De_may 54 = .ok (.iconst (-1), 1) := by decide +kernel
theorem d_De_may_55 : decode b_De_may 55 = .ok (.ireturn, 1) := by decide +kernel
theorem d_De_may_56 : decode b_De_may 56 = .ok (.iload_n 1, 1) := by decide +kernel
theorem d_De_may_57 : decode b_De_may 57 = .ok (.iconst 4, 1) := by decide +kernel
theorem d_De_may_58 : decode b_De_may 58 = .ok (.imul, 1) := by decide +kernel
theorem d_De_may_59 : decode b_De_may 59 = .ok (.iload_n 2, 1) := by decide +kernel
theorem d_De_may_60 : decode b_De_may 60 = .ok (.iadd, 1) := by decide +kernel
theorem d_De_may_61 : decode b_De_may 61 = .ok (.bipush 6, 2) := by decide +kernel
theorem d_De_may_63 : decode b_De_may 63 = .ok (.imul, 1) := by decide +kernel
theorem d_De_may_64 : decode b_De_may 64 = .ok (.iload_n 3, 1) := by decide +kernel
theorem d_De_may_65 : decode b_De_may 65 = .ok (.iadd, 1) := by decide +kernel
theorem d_De_may_66 : decode b_De_may 66 = .ok (.iconst 4, 1) := by decide +kernel
theorem d_De_may_67 : decode b_De_may 67 = .ok (.imul, 1) := by decide +kernel
theorem d_De_may_68 : decode b_De_may 68 = .ok (.iload 4, 2) := by decide +kernel
theorem d_De_may_70 : decode b_De_may 70 = .ok (.iadd, 1) := by decide +kernel
theorem d_De_may_71 : decode b_De_may 71 = .ok (.bipush 8, 2) := by decide +kernel
theorem d_De_may_73 : decode b_De_may 73 = .ok (.imul, 1) := by decide +kernel
theorem d_De_may_74 : decode b_De_may 74 = .ok (.iload 5, 2) := by decide +kernel
theorem d_De_may_76 : decode b_De_may 76 = .ok (.iadd, 1) := by decide +kernel
theorem d_De_may_77 : decode b_De_may 77 = .ok (.istore 7, 2) := by decide +kernel
theorem d_De_may_79 : decode b_De_may 79 = .ok (.aload_n 0, 1) := by decide +kernel
theorem d_De_may_80 : decode b_De_may 80 = .ok (.getfield 19, 3) := by decide +kernel
theorem d_De_may_83 : decode b_De_may 83 = .ok (.iload 7, 2) := by decide +kernel
theorem d_De_may_85 : decode b_De_may 85 = .ok (.invokevirtual 54, 3) := by decide +kernel
theorem d_De_may_88 : decode b_De_may 88 = .ok (.astore 8, 2) := by decide +kernel
theorem d_De_may_90 : decode b_De_may 90 = .ok (.iload 6, 2) := by decide +kernel
theorem d_De_may_92 : decode b_De_may 92 = .ok (.iconst 1, 1) := by decide +kernel
theorem d_De_may_93 : decode b_De_may 93 = .ok (.if_icmp .ne 19, 3) := by decide +kernel
theorem d_De_may_96 : decode b_De_may 96 = .ok (.aload 8, 2) := by decide +kernel
theorem d_De_may_98 : decode b_De_may 98 = .ok (.ifnonnull 8, 3) := by decide +kernel
theorem d_De_may_101 : decode b_De_may 101 = .ok (.bipush (-2), 2) := by decide +kernel
theorem d_De_may_103 : decode b_De_may 103 = .ok (.goto 8, 3) := by decide +kernel
theorem d_De_may_106 : decode b_De_may 106 = .ok (.aload 8, 2) := by decide +kernel
theorem d_De_may_108 : decode b_De_may 108 = .ok (.getfield 58, 3) := by decide +kernel
theorem d_De_may_111 : decode b_De_may 111 = .ok (.ireturn, 1) := by decide +kernel
theorem d_De_may_112 : decode b_De_may 112 = .ok (.aload 8, 2) := by decide +kernel
theorem d_De_may_114 : decode b_De_may 114 = .ok (.ifnull 11, 3) := by decide +kernel
theorem d_De_may_117 : decode b_De_may 117 = .ok (.aload 8, 2) := by decide +kernel
theorem d_De_may_119 : decode b_De_may 119 = .ok (.getfield 64, 3) := by decide +kernel
theorem d_De_may_122 : decode b_De_may 122 = .ok (.ifCond .eq 7, 3) := by decide +kernel
theorem d_De_may_125 : decode b_De_may 125 = .ok (.iconst 0, 1) := by decide +kernel
theorem d_De_may_126 : decode b_De_may 126 = .ok (.goto 4, 3) := by decide +kernel
theorem d_De_may_129 : decode b_De_may 129 = .ok (.iconst 1, 1) := by decide +kernel
theorem d_De_may_130 : decode b_De_may 130 = .ok (.ireturn, 1) := by decide +kernel
theorem d_De_asks_0 : decode b_De_asks 0 = .ok (.aload_n 0, 1) := by decide +kernel
theorem d_De_asks_1 : decode b_De_asks 1 = .ok (.getfield 10, 3) := by decide +kernel
theorem d_De_asks_4 : decode b_De_asks 4 = .ok (.iload_n 1, 1) := by decide +kernel
theorem d_De_asks_5 : decode b_De_asks 5 = .ok (.invokevirtual 39, 3) := by decide +kernel
theorem d_De_asks_8 : decode b_De_asks 8 = .ok (.astore_n 2, 1) := by decide +kernel
theorem d_De_asks_9 : decode b_De_asks 9 = .ok (.aload_n 2, 1) := by decide +kernel
theorem d_De_asks_10 : decode b_De_asks 10 = .ok (.ifnonnull 5, 3) := by decide +kernel
theorem d_De_asks_13 : decode b_De_asks 13 = .ok (.iconst (-1), 1) := by decide +kernel
theorem d_De_asks_14 : decode b_De_asks 14 = .ok (.ireturn, 1) := by decide +kernel
theorem d_De_asks_15 : decode b_De_asks 15 = .ok (.iconst 0, 1) := by decide +kernel
theorem d_De_asks_16 : decode b_De_asks 16 = .ok (.istore_n 3, 1) := by decide +kernel
theorem d_De_asks_17 : decode b_De_asks 17 = .ok (.iconst 0, 1) := by decide +kernel
theorem d_De_asks_18 : decode b_De_asks 18 = .ok (.istore 4, 2) := by decide +kernel
theorem d_De_asks_20 : decode b_De_asks 20 = .ok (.iload 4, 2) := by decide +kernel
theorem d_De_asks_22 : decode b_De_asks 22 = .ok (.bipush 96, 2) := by decide +kernel
theorem d_De_asks_24 : decode b_De_asks 24 = .ok (.if_icmp .ge 21, 3) := by decide +kernel
theorem d_De_asks_27 : decode b_De_asks 27 = .ok (.iload_n 3, 1) := by decide +kernel
theorem d_De_asks_28 : decode b_De_asks 28 = .ok (.aload_n 2, 1) := by decide +kernel
theorem d_De_asks_29 : decode b_De_asks 29 = .ok (.iload 4, 2) := by decide +kernel
theorem d_De_asks_31 : decode b_De_asks 31 = .ok (.invokevirtual 68, 3) := by decide +kernel
theorem d_De_asks_34 : decode b_De_asks 34 = .ok (.invokestatic 74, 3) := by decide +kernel
theorem d_De_asks_37 : decode b_De_asks 37 = .ok (.iadd, 1) := by decide +kernel
theorem d_De_asks_38 : decode b_De_asks 38 = .ok (.istore_n 3, 1) := by decide +kernel
theorem d_De_asks_39 : decode b_De_asks 39 = .ok (.iinc 4 1, 3) := by decide +kernel
theorem d_De_asks_42 : decode b_De_asks 42 = .ok (.goto (-22), 3) := by decide +kernel
theorem d_De_asks_45 : decode b_De_asks 45 = .ok (.iload_n 3, 1) := by decide +kernel
theorem d_De_asks_46 : decode b_De_asks 46 = .ok (.ireturn, 1) := by decide +kernel
theorem d_De_ask_0 : decode b_De_ask 0 = .ok (.aload_n 0, 1) := by decide +kernel
theorem d_De_ask_1 : decode b_De_ask 1 = .ok (.getfield 10, 3) := by decide +kernel
theorem d_De_ask_4 : decode b_De_ask 4 = .ok (.iload_n 1, 1) := by decide +kernel
theorem d_De_ask_5 : decode b_De_ask 5 = .ok (.invokevirtual 39, 3) := by decide +kernel
theorem d_De_ask_8 : decode b_De_ask 8 = .ok (.astore_n 3, 1) := by decide +kernel
theorem d_De_ask_9 : decode b_De_ask 9 = .ok (.aload_n 3, 1) := by decide +kernel
theorem d_De_ask_10 : decode b_De_ask 10 = .ok (.ifnonnull 5, 3) := by decide +kernel
theorem d_De_ask_13 : decode b_De_ask 13 = .ok (.iconst (-1), 1) := by decide +kernel
theorem d_De_ask_14 : decode b_De_ask 14 = .ok (.ireturn, 1) := by decide +kernel
theorem d_De_ask_15 : decode b_De_ask 15 = .ok (.iload_n 2, 1) := by decide +kernel
theorem d_De_ask_16 : decode b_De_ask 16 = .ok (.ifCond .ge 6, 3) := by decide +kernel
theorem d_De_ask_19 : decode b_De_ask 19 = .ok (.bipush (-2), 2) := by decide +kernel
theorem d_De_ask_21 : decode b_De_ask 21 = .ok (.ireturn, 1) := by decide +kernel
theorem d_De_ask_22 : decode b_De_ask 22 = .ok (.iload_n 2, 1) := by decide +kernel
theorem d_De_ask_23 : decode b_De_ask 23 = .ok (.istore 4, 2) := by decide +kernel
theorem d_De_ask_25 : decode b_De_ask 25 = .ok (.iconst 0, 1) := by decide +kernel
theorem d_De_ask_26 : decode b_De_ask 26 = .ok (.istore 5, 2) := by decide +kernel
theorem d_De_ask_28 : decode b_De_ask 28 = .ok (.iload 5, 2) := by decide +kernel
theorem d_De_ask_30 : decode b_De_ask 30 = .ok (.bipush 96, 2) := by decide +kernel
theorem d_De_ask_32 : decode b_De_ask 32 = .ok (.if_icmp .ge 52, 3) := by decide +kernel
theorem d_De_ask_35 : decode b_De_ask 35 = .ok (.aload_n 3, 1) := by decide +kernel
theorem d_De_ask_36 : decode b_De_ask 36 = .ok (.iload 5, 2) := by decide +kernel
theorem d_De_ask_38 : decode b_De_ask 38 = .ok (.invokevirtual 68, 3) := by decide +kernel
theorem d_De_ask_41 : decode b_De_ask 41 = .ok (.invokestatic 74, 3) := by decide +kernel
theorem d_De_ask_44 : decode b_De_ask 44 = .ok (.istore 6, 2) := by decide +kernel
theorem d_De_ask_46 : decode b_De_ask 46 = .ok (.iload 4, 2) := by decide +kernel
theorem d_De_ask_48 : decode b_De_ask 48 = .ok (.iload 6, 2) := by decide +kernel
theorem d_De_ask_50 : decode b_De_ask 50 = .ok (.if_icmp .ge 21, 3) := by decide +kernel
theorem d_De_ask_53 : decode b_De_ask 53 = .ok (.iload 5, 2) := by decide +kernel
theorem d_De_ask_55 : decode b_De_ask 55 = .ok (.bipush 64, 2) := by decide +kernel
theorem d_De_ask_57 : decode b_De_ask 57 = .ok (.imul, 1) := by decide +kernel
theorem d_De_ask_58 : decode b_De_ask 58 = .ok (.aload_n 3, 1) := by decide +kernel
theorem d_De_ask_59 : decode b_De_ask 59 = .ok (.iload 5, 2) := by decide +kernel
theorem d_De_ask_61 : decode b_De_ask 61 = .ok (.invokevirtual 68, 3) := by decide +kernel
theorem d_De_ask_64 : decode b_De_ask 64 = .ok (.iload 4, 2) := by decide +kernel
theorem d_De_ask_66 : decode b_De_ask 66 = .ok (.invokestatic 80, 3) := by decide +kernel
theorem d_De_ask_69 : decode b_De_ask 69 = .ok (.iadd, 1) := by decide +kernel
theorem d_De_ask_70 : decode b_De_ask 70 = .ok (.ireturn, 1) := by decide +kernel
theorem d_De_ask_71 : decode b_De_ask 71 = .ok (.iload 4, 2) := by decide +kernel
theorem d_De_ask_73 : decode b_De_ask 73 = .ok (.iload 6, 2) := by decide +kernel
theorem d_De_ask_75 : decode b_De_ask 75 = .ok (.isub, 1) := by decide +kernel
theorem d_De_ask_76 : decode b_De_ask 76 = .ok (.istore 4, 2) := by decide +kernel
theorem d_De_ask_78 : decode b_De_ask 78 = .ok (.iinc 5 1, 3) := by decide +kernel
theorem d_De_ask_81 : decode b_De_ask 81 = .ok (.goto (-53), 3) := by decide +kernel
theorem d_De_ask_84 : decode b_De_ask 84 = .ok (.bipush (-2), 2) := by decide +kernel
theorem d_De_ask_86 : decode b_De_ask 86 = .ok (.ireturn, 1) := by decide +kernel
theorem d_De_within_0 : decode b_De_within 0 = .ok (.aload_n 0, 1) := by decide +kernel
theorem d_De_within_1 : decode b_De_within 1 = .ok (.getfield 10, 3) := by decide +kernel
theorem d_De_within_4 : decode b_De_within 4 = .ok (.iload_n 1, 1) := by decide +kernel
theorem d_De_within_5 : decode b_De_within 5 = .ok (.invokevirtual 39, 3) := by decide +kernel
theorem d_De_within_8 : decode b_De_within 8 = .ok (.astore_n 3, 1) := by decide +kernel
theorem d_De_within_9 : decode b_De_within 9 = .ok (.aload_n 0, 1) := by decide +kernel
theorem d_De_within_10 : decode b_De_within 10 = .ok (.getfield 10, 3) := by decide +kernel
theorem d_De_within_13 : decode b_De_within 13 = .ok (.iload_n 2, 1) := by decide +kernel
theorem d_De_within_14 : decode b_De_within 14 = .ok (.invokevirtual 39, 3) := by decide +kernel
theorem d_De_within_17 : decode b_De_within 17 = .ok (.astore 4, 2) := by decide +kernel
theorem d_De_within_19 : decode b_De_within 19 = .ok (.aload_n 3, 1) := by decide +kernel
theorem d_De_within_20 : decode b_De_within 20 = .ok (.ifnull 8, 3) := by decide +kernel
theorem d_De_within_23 : decode b_De_within 23 = .ok (.aload 4, 2) := by decide +kernel
theorem d_De_within_25 : decode b_De_within 25 = .ok (.ifnonnull 5, 3) := by decide +kernel
theorem d_De_within_28 : decode b_De_within 28 = .ok (.iconst (-1), 1) := by decide +kernel
theorem d_De_within_29 : decode b_De_within 29 = .ok (.ireturn, 1) := by decide +kernel
theorem d_De_within_30 : decode b_De_within 30 = .ok (.iconst 0, 1) := by decide +kernel
theorem d_De_within_31 : decode b_De_within 31 = .ok (.istore 5, 2) := by decide +kernel
theorem d_De_within_33 : decode b_De_within 33 = .ok (.iload 5, 2) := by decide +kernel
theorem d_De_within_35 : decode b_De_within 35 = .ok (.bipush 96, 2) := by decide +kernel
theorem d_De_within_37 : decode b_De_within 37 = .ok (.if_icmp .ge 34, 3) := by decide +kernel
theorem d_De_within_40 : decode b_De_within 40 = .ok (.aload_n 3, 1) := by decide +kernel
theorem d_De_within_41 : decode b_De_within 41 = .ok (.iload 5, 2) := by decide +kernel
theorem d_De_within_43 : decode b_De_within 43 = .ok (.invokevirtual 68, 3) := by decide +kernel
theorem d_De_within_46 : decode b_De_within 46 = .ok (.aload 4, 2) := by decide +kernel
theorem d_De_within_48 : decode b_De_within 48 = .ok (.iload 5, 2) := by decide +kernel
theorem d_De_within_50 : decode b_De_within 50 = .ok (.invokevirtual 68, 3) := by decide +kernel
theorem d_De_within_53 : decode b_De_within 53 = .ok (.ldc2_w 84, 3) := by decide +kernel
theorem d_De_within_56 : decode b_De_within 56 = .ok (.lxor, 1) := by decide +kernel
theorem d_De_within_57 : decode b_De_within 57 = .ok (.land, 1) := by decide +kernel
theorem d_De_within_58 : decode b_De_within 58 = .ok (.lconst 0, 1) := by decide +kernel
theorem d_De_within_59 : decode b_De_within 59 = .ok (.lcmp, 1) := by decide +kernel
theorem d_De_within_60 : decode b_De_within 60 = .ok (.ifCond .eq 5, 3) := by decide +kernel
theorem d_De_within_63 : decode b_De_within 63 = .ok (.iconst 0, 1) := by decide +kernel
theorem d_De_within_64 : decode b_De_within 64 = .ok (.ireturn, 1) := by decide +kernel
theorem d_De_within_65 : decode b_De_within 65 = .ok (.iinc 5 1, 3) := by decide +kernel
theorem d_De_within_68 : decode b_De_within 68 = .ok (.goto (-35), 3) := by decide +kernel
theorem d_De_within_71 : decode b_De_within 71 = .ok (.iconst 1, 1) := by decide +kernel
theorem d_De_within_72 : decode b_De_within 72 = .ok (.ireturn, 1) := by decide +kernel
theorem d_De_decides_0 : decode b_De_decides 0 = .ok (.aload_n 0, 1) := by decide +kernel
theorem d_De_decides_1 : decode b_De_decides 1 = .ok (.getfield 19, 3) := by decide +kernel
theorem d_De_decides_4 : decode b_De_decides 4 = .ok (.iload_n 1, 1) := by decide +kernel
theorem d_De_decides_5 : decode b_De_decides 5 = .ok (.invokevirtual 46, 3) := by decide +kernel
theorem d_De_decides_8 : decode b_De_decides 8 = .ok (.istore_n 2, 1) := by decide +kernel
theorem d_De_decides_9 : decode b_De_decides 9 = .ok (.iload_n 2, 1) := by decide +kernel
theorem d_De_decides_10 : decode b_De_decides 10 = .ok (.iconst (-1), 1) := by decide +kernel
theorem d_De_decides_11 : decode b_De_decides 11 = .ok (.if_icmp .ne 5, 3) := by decide +kernel
theorem d_De_decides_14 : decode b_De_decides 14 = .ok (.iconst (-1), 1) := by decide +kernel
theorem d_De_decides_15 : decode b_De_decides 15 = .ok (.ireturn, 1) := by decide +kernel
theorem d_De_decides_16 : decode b_De_decides 16 = .ok (.iconst 0, 1) := by decide +kernel
theorem d_De_decides_17 : decode b_De_decides 17 = .ok (.istore_n 3, 1) := by decide +kernel
theorem d_De_decides_18 : decode b_De_decides 18 = .ok (.iconst 0, 1) := by decide +kernel
theorem d_De_decides_19 : decode b_De_decides 19 = .ok (.istore 4, 2) := by decide +kernel
theorem d_De_decides_21 : decode b_De_decides 21 = .ok (.iload 4, 2) := by decide +kernel
theorem d_De_decides_23 : decode b_De_decides 23 = .ok (.bipush 96, 2) := by decide +kernel
theorem d_De_decides_25 : decode b_De_decides 25 = .ok (.if_icmp .ge 25, 3) := by decide +kernel
theorem d_De_decides_28 : decode b_De_decides 28 = .ok (.iload_n 3, 1) := by decide +kernel
theorem d_De_decides_29 : decode b_De_decides 29 = .ok (.aload_n 0, 1) := by decide +kernel
theorem d_De_decides_30 : decode b_De_decides 30 = .ok (.getfield 19, 3) := by decide +kernel
theorem d_De_decides_33 : decode b_De_decides 33 = .ok (.iload_n 2, 1) := by decide +kernel
theorem d_De_decides_34 : decode b_De_decides 34 = .ok (.iload 4, 2) := by decide +kernel
theorem d_De_decides_36 : decode b_De_decides 36 = .ok (.invokevirtual 86, 3) := by decide +kernel
theorem d_De_decides_39 : decode b_De_decides 39 = .ok (.invokestatic 74, 3) := by decide +kernel
theorem d_De_decides_42 : decode b_De_decides 42 = .ok (.iadd, 1) := by decide +kernel
theorem d_De_decides_43 : decode b_De_decides 43 = .ok (.istore_n 3, 1) := by decide +kernel
theorem d_De_decides_44 : decode b_De_decides 44 = .ok (.iinc 4 1, 3) := by decide +kernel
theorem d_De_decides_47 : decode b_De_decides 47 = .ok (.goto (-26), 3) := by decide +kernel
theorem d_De_decides_50 : decode b_De_decides 50 = .ok (.iload_n 3, 1) := by decide +kernel
theorem d_De_decides_51 : decode b_De_decides 51 = .ok (.ireturn, 1) := by decide +kernel
theorem d_De_sees_0 : decode b_De_sees 0 = .ok (.iload_n 1, 1) := by decide +kernel
theorem d_De_sees_1 : decode b_De_sees 1 = .ok (.bipush 8, 2) := by decide +kernel
theorem d_De_sees_3 : decode b_De_sees 3 = .ok (.invokestatic 23, 3) := by decide +kernel
theorem d_De_sees_6 : decode b_De_sees 6 = .ok (.ifCond .eq 12, 3) := by decide +kernel
theorem d_De_sees_9 : decode b_De_sees 9 = .ok (.iload_n 2, 1) := by decide +kernel
theorem d_De_sees_10 : decode b_De_sees 10 = .ok (.bipush 8, 2) := by decide +kernel
theorem d_De_sees_12 : decode b_De_sees 12 = .ok (.invokestatic 23, 3) := by decide +kernel
theorem d_De_sees_15 : decode b_De_sees 15 = .ok (.ifCond .ne 5, 3) := by decide +kernel
theorem d_De_sees_18 : decode b_De_sees 18 = .ok (.iconst (-1), 1) := by decide +kernel
theorem d_De_sees_19 : decode b_De_sees 19 = .ok (.ireturn, 1) := by decide +kernel
theorem d_De_sees_20 : decode b_De_sees 20 = .ok (.iload_n 2, 1) := by decide +kernel
theorem d_De_sees_21 : decode b_De_sees 21 = .ok (.iload_n 2, 1) := by decide +kernel
theorem d_De_sees_22 : decode b_De_sees 22 = .ok (.invokestatic 90, 3) := by decide +kernel
theorem d_De_sees_25 : decode b_De_sees 25 = .ok (.lstore_n 3, 1) := by decide +kernel
theorem d_De_sees_26 : decode b_De_sees 26 = .ok (.iconst 0, 1) := by decide +kernel
theorem d_De_sees_27 : decode b_De_sees 27 = .ok (.istore 5, 2) := by decide +kernel
theorem d_De_sees_29 : decode b_De_sees 29 = .ok (.iconst 0, 1) := by decide +kernel
theorem d_De_sees_30 : decode b_De_sees 30 = .ok (.istore 6, 2) := by decide +kernel
theorem d_De_sees_32 : decode b_De_sees 32 = .ok (.iload 6, 2) := by decide +kernel
theorem d_De_sees_34 : decode b_De_sees 34 = .ok (.bipush 12, 2) := by decide +kernel
theorem d_De_sees_36 : decode b_De_sees 36 = .ok (.if_icmp .ge 30, 3) := by decide +kernel
theorem d_De_sees_39 : decode b_De_sees 39 = .ok (.iload 5, 2) := by decide +kernel
theorem d_De_sees_41 : decode b_De_sees 41 = .ok (.lload_n 3, 1) := by decide +kernel
theorem d_De_sees_42 : decode b_De_sees 42 = .ok (.aload_n 0, 1) := by decide +kernel
theorem d_De_sees_43 : decode b_De_sees 43 = .ok (.iload_n 1, 1) := by decide +kernel
theorem d_De_sees_44 : decode b_De_sees 44 = .ok (.bipush 12, 2) := by decide +kernel
theorem d_De_sees_46 : decode b_De_sees 46 = .ok (.imul, 1) := by decide +kernel
theorem d_De_sees_47 : decode b_De_sees 47 = .ok (.iload 6, 2) := by decide +kernel
theorem d_De_sees_49 : decode b_De_sees 49 = .ok (.iadd, 1) := by decide +kernel
theorem d_De_sees_50 : decode b_De_sees 50 = .ok (.invokevirtual 93, 3) := by decide +kernel
theorem d_De_sees_53 : decode b_De_sees 53 = .ok (.land, 1) := by decide +kernel
theorem d_De_sees_54 : decode b_De_sees 54 = .ok (.invokestatic 74, 3) := by decide +kernel
theorem d_De_sees_57 : decode b_De_sees 57 = .ok (.iadd, 1) := by decide +kernel
theorem d_De_sees_58 : decode b_De_sees 58 = .ok (.istore 5, 2) := by decide +kernel
theorem d_De_sees_60 : decode b_De_sees 60 = .ok (.iinc 6 1, 3) := by decide +kernel
theorem d_De_sees_63 : decode b_De_sees 63 = .ok (.goto (-31), 3) := by decide +kernel
theorem d_De_sees_66 : decode b_De_sees 66 = .ok (.iload 5, 2) := by decide +kernel
theorem d_De_sees_68 : decode b_De_sees 68 = .ok (.ireturn, 1) := by decide +kernel
theorem d_De_matters_0 : decode b_De_matters 0 = .ok (.aload_n 0, 1) := by decide +kernel
theorem d_De_matters_1 : decode b_De_matters 1 = .ok (.getfield 19, 3) := by decide +kernel
theorem d_De_matters_4 : decode b_De_matters 4 = .ok (.iload_n 1, 1) := by decide +kernel
theorem d_De_matters_5 : decode b_De_matters 5 = .ok (.invokevirtual 46, 3) := by decide +kernel
theorem d_De_matters_8 : decode b_De_matters 8 = .ok (.istore_n 2, 1) := by decide +kernel
theorem d_De_matters_9 : decode b_De_matters 9 = .ok (.iload_n 2, 1) := by decide +kernel
theorem d_De_matters_10 : decode b_De_matters 10 = .ok (.iconst (-1), 1) := by decide +kernel
theorem d_De_matters_11 : decode b_De_matters 11 = .ok (.if_icmp .ne 5, 3) := by decide +kernel
theorem d_De_matters_14 : decode b_De_matters 14 = .ok (.iconst (-1), 1) := by decide +kernel
theorem d_De_matters_15 : decode b_De_matters 15 = .ok (.ireturn, 1) := by decide +kernel
theorem d_De_matters_16 : decode b_De_matters 16 = .ok (.iconst 0, 1) := by decide +kernel
theorem d_De_matters_17 : decode b_De_matters 17 = .ok (.istore_n 3, 1) := by decide +kernel
theorem d_De_matters_18 : decode b_De_matters 18 = .ok (.iconst 0, 1) := by decide +kernel
theorem d_De_matters_19 : decode b_De_matters 19 = .ok (.istore 4, 2) := by decide +kernel
theorem d_De_matters_21 : decode b_De_matters 21 = .ok (.iload 4, 2) := by decide +kernel
theorem d_De_matters_23 : decode b_De_matters 23 = .ok (.bipush 96, 2) := by decide +kernel
theorem d_De_matters_25 : decode b_De_matters 25 = .ok (.if_icmp .ge 25, 3) := by decide +kernel
theorem d_De_matters_28 : decode b_De_matters 28 = .ok (.iload_n 3, 1) := by decide +kernel
theorem d_De_matters_29 : decode b_De_matters 29 = .ok (.aload_n 0, 1) := by decide +kernel
theorem d_De_matters_30 : decode b_De_matters 30 = .ok (.getfield 19, 3) := by decide +kernel
theorem d_De_matters_33 : decode b_De_matters 33 = .ok (.iload_n 2, 1) := by decide +kernel
theorem d_De_matters_34 : decode b_De_matters 34 = .ok (.iload 4, 2) := by decide +kernel
theorem d_De_matters_36 : decode b_De_matters 36 = .ok (.invokevirtual 96, 3) := by decide +kernel
theorem d_De_matters_39 : decode b_De_matters 39 = .ok (.invokestatic 74, 3) := by decide +kernel
theorem d_De_matters_42 : decode b_De_matters 42 = .ok (.iadd, 1) := by decide +kernel
theorem d_De_matters_43 : decode b_De_matters 43 = .ok (.istore_n 3, 1) := by decide +kernel
theorem d_De_matters_44 : decode b_De_matters 44 = .ok (.iinc 4 1, 3) := by decide +kernel
theorem d_De_matters_47 : decode b_De_matters 47 = .ok (.goto (-26), 3) := by decide +kernel
theorem d_De_matters_50 : decode b_De_matters 50 = .ok (.iload_n 3, 1) := by decide +kernel
theorem d_De_matters_51 : decode b_De_matters 51 = .ok (.ireturn, 1) := by decide +kernel
theorem d_De_idle_0 : decode b_De_idle 0 = .ok (.aload_n 0, 1) := by decide +kernel
theorem d_De_idle_1 : decode b_De_idle 1 = .ok (.getfield 10, 3) := by decide +kernel
theorem d_De_idle_4 : decode b_De_idle 4 = .ok (.iload_n 2, 1) := by decide +kernel
theorem d_De_idle_5 : decode b_De_idle 5 = .ok (.invokevirtual 39, 3) := by decide +kernel
theorem d_De_idle_8 : decode b_De_idle 8 = .ok (.astore_n 3, 1) := by decide +kernel
theorem d_De_idle_9 : decode b_De_idle 9 = .ok (.aload_n 3, 1) := by decide +kernel
theorem d_De_idle_10 : decode b_De_idle 10 = .ok (.ifnonnull 5, 3) := by decide +kernel
theorem d_De_idle_13 : decode b_De_idle 13 = .ok (.iconst (-1), 1) := by decide +kernel
theorem d_De_idle_14 : decode b_De_idle 14 = .ok (.ireturn, 1) := by decide +kernel
theorem d_De_idle_15 : decode b_De_idle 15 = .ok (.iconst 0, 1) := by decide +kernel
theorem d_De_idle_16 : decode b_De_idle 16 = .ok (.istore 4, 2) := by decide +kernel
theorem d_De_idle_18 : decode b_De_idle 18 = .ok (.iconst 0, 1) := by decide +kernel
theorem d_De_idle_19 : decode b_De_idle 19 = .ok (.istore 5, 2) := by decide +kernel
theorem d_De_idle_21 : decode b_De_idle 21 = .ok (.iload 5, 2) := by decide +kernel
theorem d_De_idle_23 : decode b_De_idle 23 = .ok (.bipush 96, 2) := by decide +kernel
theorem d_De_idle_25 : decode b_De_idle 25 = .ok (.if_icmp .ge 32, 3) := by decide +kernel
theorem d_De_idle_28 : decode b_De_idle 28 = .ok (.iload 4, 2) := by decide +kernel
theorem d_De_idle_30 : decode b_De_idle 30 = .ok (.aload_n 0, 1) := by decide +kernel
theorem d_De_idle_31 : decode b_De_idle 31 = .ok (.getfield 19, 3) := by decide +kernel
theorem d_De_idle_34 : decode b_De_idle 34 = .ok (.iload_n 1, 1) := by decide +kernel
theorem d_De_idle_35 : decode b_De_idle 35 = .ok (.aload_n 3, 1) := by decide +kernel
theorem d_De_idle_36 : decode b_De_idle 36 = .ok (.iload 5, 2) := by decide +kernel
theorem d_De_idle_38 : decode b_De_idle 38 = .ok (.invokevirtual 68, 3) := by decide +kernel
theorem d_De_idle_41 : decode b_De_idle 41 = .ok (.iload 5, 2) := by decide +kernel
theorem d_De_idle_43 : decode b_De_idle 43 = .ok (.invokevirtual 99, 3) := by decide +kernel
theorem d_De_idle_46 : decode b_De_idle 46 = .ok (.invokestatic 103, 3) := by decide +kernel
theorem d_De_idle_49 : decode b_De_idle 49 = .ok (.istore 4, 2) := by decide +kernel
theorem d_De_idle_51 : decode b_De_idle 51 = .ok (.iinc 5 1, 3) := by decide +kernel
theorem d_De_idle_54 : decode b_De_idle 54 = .ok (.goto (-33), 3) := by decide +kernel
theorem d_De_idle_57 : decode b_De_idle 57 = .ok (.iload 4, 2) := by decide +kernel
theorem d_De_idle_59 : decode b_De_idle 59 = .ok (.ireturn, 1) := by decide +kernel
theorem d_De_apart_0 : decode b_De_apart 0 = .ok (.iload_n 1, 1) := by decide +kernel
theorem d_De_apart_1 : decode b_De_apart 1 = .ok (.bipush 8, 2) := by decide +kernel
theorem d_De_apart_3 : decode b_De_apart 3 = .ok (.invokestatic 23, 3) := by decide +kernel
theorem d_De_apart_6 : decode b_De_apart 6 = .ok (.ifCond .eq 12, 3) := by decide +kernel
theorem d_De_apart_9 : decode b_De_apart 9 = .ok (.iload_n 2, 1) := by decide +kernel
theorem d_De_apart_10 : decode b_De_apart 10 = .ok (.bipush 8, 2) := by decide +kernel
theorem d_De_apart_12 : decode b_De_apart 12 = .ok (.invokestatic 23, 3) := by decide +kernel
theorem d_De_apart_15 : decode b_De_apart 15 = .ok (.ifCond .ne 5, 3) := by decide +kernel
theorem d_De_apart_18 : decode b_De_apart 18 = .ok (.iconst (-1), 1) := by decide +kernel
theorem d_De_apart_19 : decode b_De_apart 19 = .ok (.ireturn, 1) := by decide +kernel
theorem d_De_apart_20 : decode b_De_apart 20 = .ok (.iconst 0, 1) := by decide +kernel
theorem d_De_apart_21 : decode b_De_apart 21 = .ok (.istore_n 3, 1) := by decide +kernel
theorem d_De_apart_22 : decode b_De_apart 22 = .ok (.iload_n 3, 1) := by decide +kernel
theorem d_De_apart_23 : decode b_De_apart 23 = .ok (.bipush 12, 2) := by decide +kernel
theorem d_De_apart_25 : decode b_De_apart 25 = .ok (.if_icmp .ge 56, 3) := by decide +kernel
theorem d_De_apart_28 : decode b_De_apart 28 = .ok (.iload_n 1, 1) := by decide +kernel
theorem d_De_apart_29 : decode b_De_apart 29 = .ok (.bipush 12, 2) := by decide +kernel
theorem d_De_apart_31 : decode b_De_apart 31 = .ok (.imul, 1) := by decide +kernel
theorem d_De_apart_32 : decode b_De_apart 32 = .ok (.iload_n 3, 1) := by decide +kernel
theorem d_De_apart_33 : decode b_De_apart 33 = .ok (.iadd, 1) := by decide +kernel
theorem d_De_apart_34 : decode b_De_apart 34 = .ok (.istore 4, 2) := by decide +kernel
theorem d_De_apart_36 : decode b_De_apart 36 = .ok (.aload_n 0, 1) := by decide +kernel
theorem d_De_apart_37 : decode b_De_apart 37 = .ok (.iload 4, 2) := by decide +kernel
theorem d_De_apart_39 : decode b_De_apart 39 = .ok (.invokevirtual 93, 3) := by decide +kernel
theorem d_De_apart_42 : decode b_De_apart 42 = .ok (.aload_n 0, 1) := by decide +kernel
theorem d_De_apart_43 : decode b_De_apart 43 = .ok (.iload_n 2, 1) := by decide +kernel
theorem d_De_apart_44 : decode b_De_apart 44 = .ok (.bipush 12, 2) := by decide +kernel
theorem d_De_apart_46 : decode b_De_apart 46 = .ok (.imul, 1) := by decide +kernel
theorem d_De_apart_47 : decode b_De_apart 47 = .ok (.iload_n 3, 1) := by decide +kernel
theorem d_De_apart_48 : decode b_De_apart 48 = .ok (.iadd, 1) := by decide +kernel
theorem d_De_apart_49 : decode b_De_apart 49 = .ok (.invokevirtual 93, 3) := by decide +kernel
theorem d_De_apart_52 : decode b_De_apart 52 = .ok (.lxor, 1) := by decide +kernel
theorem d_De_apart_53 : decode b_De_apart 53 = .ok (.lstore 5, 2) := by decide +kernel
theorem d_De_apart_55 : decode b_De_apart 55 = .ok (.lload 5, 2) := by decide +kernel
theorem d_De_apart_57 : decode b_De_apart 57 = .ok (.lconst 0, 1) := by decide +kernel
theorem d_De_apart_58 : decode b_De_apart 58 = .ok (.lcmp, 1) := by decide +kernel
theorem d_De_apart_59 : decode b_De_apart 59 = .ok (.ifCond .eq 16, 3) := by decide +kernel
theorem d_De_apart_62 : decode b_De_apart 62 = .ok (.iload 4, 2) := by decide +kernel
theorem d_De_apart_64 : decode b_De_apart 64 = .ok (.bipush 64, 2) := by decide +kernel
theorem d_De_apart_66 : decode b_De_apart 66 = .ok (.imul, 1) := by decide +kernel
theorem d_De_apart_67 : decode b_De_apart 67 = .ok (.lload 5, 2) := by decide +kernel
theorem d_De_apart_69 : decode b_De_apart 69 = .ok (.iconst 0, 1) := by decide +kernel
theorem d_De_apart_70 : decode b_De_apart 70 = .ok (.invokestatic 80, 3) := by decide +kernel
theorem d_De_apart_73 : decode b_De_apart 73 = .ok (.iadd, 1) := by decide +kernel
theorem d_De_apart_74 : decode b_De_apart 74 = .ok (.ireturn, 1) := by decide +kernel
theorem d_De_apart_75 : decode b_De_apart 75 = .ok (.iinc 3 1, 3) := by decide +kernel
theorem d_De_apart_78 : decode b_De_apart 78 = .ok (.goto (-56), 3) := by decide +kernel
theorem d_De_apart_81 : decode b_De_apart 81 = .ok (.bipush (-2), 2) := by decide +kernel
theorem d_De_apart_83 : decode b_De_apart 83 = .ok (.ireturn, 1) := by decide +kernel
theorem d_De_allowed_0 : decode b_De_allowed 0 = .ok (.iconst 0, 1) := by decide +kernel
theorem d_De_allowed_1 : decode b_De_allowed 1 = .ok (.istore_n 1, 1) := by decide +kernel
theorem d_De_allowed_2 : decode b_De_allowed 2 = .ok (.iconst 0, 1) := by decide +kernel
theorem d_De_allowed_3 : decode b_De_allowed 3 = .ok (.istore_n 2, 1) := by decide +kernel
theorem d_De_allowed_4 : decode b_De_allowed 4 = .ok (.iload_n 2, 1) := by decide +kernel
theorem d_De_allowed_5 : decode b_De_allowed 5 = .ok (.bipush 96, 2) := by decide +kernel
theorem d_De_allowed_7 : decode b_De_allowed 7 = .ok (.if_icmp .ge 20, 3) := by decide +kernel
theorem d_De_allowed_10 : decode b_De_allowed 10 = .ok (.iload_n 1, 1) := by decide +kernel
theorem d_De_allowed_11 : decode b_De_allowed 11 = .ok (.aload_n 0, 1) := by decide +kernel
theorem d_De_allowed_12 : decode b_De_allowed 12 = .ok (.iload_n 2, 1) := by decide +kernel
theorem d_De_allowed_13 : decode b_De_allowed 13 = .ok (.invokevirtual 93, 3) := by decide +kernel
theorem d_De_allowed_16 : decode b_De_allowed 16 = .ok (.invokestatic 74, 3) := by decide +kernel
theorem d_De_allowed_19 : decode b_De_allowed 19 = .ok (.iadd, 1) := by decide +kernel
theorem d_De_allowed_20 : decode b_De_allowed 20 = .ok (.istore_n 1, 1) := by decide +kernel
theorem d_De_allowed_21 : decode b_De_allowed 21 = .ok (.iinc 2 1, 3) := by decide +kernel
theorem d_De_allowed_24 : decode b_De_allowed 24 = .ok (.goto (-20), 3) := by decide +kernel
theorem d_De_allowed_27 : decode b_De_allowed 27 = .ok (.iload_n 1, 1) := by decide +kernel
theorem d_De_allowed_28 : decode b_De_allowed 28 = .ok (.ireturn, 1) := by decide +kernel
theorem d_De_conditions_0 : decode b_De_conditions 0 = .ok (.aload_n 0, 1) := by decide +kernel
theorem d_De_conditions_1 : decode b_De_conditions 1 = .ok (.getfield 10, 3) := by decide +kernel
theorem d_De_conditions_4 : decode b_De_conditions 4 = .ok (.getfield 108, 3) := by decide +kernel
theorem d_De_conditions_7 : decode b_De_conditions 7 = .ok (.ireturn, 1) := by decide +kernel
theorem d_De_rules_0 : decode b_De_rules 0 = .ok (.aload_n 0, 1) := by decide +kernel
theorem d_De_rules_1 : decode b_De_rules 1 = .ok (.getfield 19, 3) := by decide +kernel
theorem d_De_rules_4 : decode b_De_rules 4 = .ok (.getfield 111, 3) := by decide +kernel
theorem d_De_rules_7 : decode b_De_rules 7 = .ok (.ireturn, 1) := by decide +kernel
theorem d_De_allowedIn_0 : decode b_De_allowedIn 0 = .ok (.aload_n 0, 1) := by decide +kernel
theorem d_De_allowedIn_1 : decode b_De_allowedIn 1 = .ok (.getfield 19, 3) := by decide +kernel
theorem d_De_allowedIn_4 : decode b_De_allowedIn 4 = .ok (.iconst 0, 1) := by decide +kernel
theorem d_De_allowedIn_5 : decode b_De_allowedIn 5 = .ok (.ldc2_w 84, 3) := by decide +kernel
theorem d_De_allowedIn_8 : decode b_De_allowedIn 8 = .ok (.iload_n 1, 1) := by decide +kernel
theorem d_De_allowedIn_9 : decode b_De_allowedIn 9 = .ok (.invokevirtual 112, 3) := by decide +kernel
theorem d_De_allowedIn_12 : decode b_De_allowedIn 12 = .ok (.lreturn, 1) := by decide +kernel
theorem d_De_isBelow_0 : decode b_De_isBelow 0 = .ok (.iload_n 0, 1) := by decide +kernel
theorem d_De_isBelow_1 : decode b_De_isBelow 1 = .ok (.ifCond .lt 12, 3) := by decide +kernel
theorem d_De_isBelow_4 : decode b_De_isBelow 4 = .ok (.iload_n 0, 1) := by decide +kernel
theorem d_De_isBelow_5 : decode b_De_isBelow 5 = .ok (.iload_n 1, 1) := by decide +kernel
theorem d_De_isBelow_6 : decode b_De_isBelow 6 = .ok (.if_icmp .ge 7, 3) := by decide +kernel
theorem d_De_isBelow_9 : decode b_De_isBelow 9 = .ok (.iconst 1, 1) := by decide +kernel
theorem d_De_isBelow_10 : decode b_De_isBelow 10 = .ok (.goto 4, 3) := by decide +kernel
theorem d_De_isBelow_13 : decode b_De_isBelow 13 = .ok (.iconst 0, 1) := by decide +kernel
theorem d_De_isBelow_14 : decode b_De_isBelow 14 = .ok (.ireturn, 1) := by decide +kernel
theorem d_De_versionsFromTo_0 : decode b_De_versionsFromTo 0 = .ok (.lconst 0, 1) := by decide +kernel
theorem d_De_versionsFromTo_1 : decode b_De_versionsFromTo 1 = .ok (.lstore_n 2, 1) := by decide +kernel
theorem d_De_versionsFromTo_2 : decode b_De_versionsFromTo 2 = .ok (.iconst 0, 1) := by decide +kernel
theorem d_De_versionsFromTo_3 : decode b_De_versionsFromTo 3 = .ok (.istore 4, 2) := by decide +kernel
theorem d_De_versionsFromTo_5 : decode b_De_versionsFromTo 5 = .ok (.iload 4, 2) := by decide +kernel
theorem d_De_versionsFromTo_7 : decode b_De_versionsFromTo 7 = .ok (.bipush 8, 2) := by decide +kernel
theorem d_De_versionsFromTo_9 : decode b_De_versionsFromTo 9 = .ok (.if_icmp .ge 30, 3) := by decide +kernel
theorem d_De_versionsFromTo_12 : decode b_De_versionsFromTo 12 = .ok (.iload 4, 2) := by decide +kernel
theorem d_De_versionsFromTo_14 : decode b_De_versionsFromTo 14 = .ok (.iload_n 0, 1) := by decide +kernel
theorem d_De_versionsFromTo_15 : decode b_De_versionsFromTo 15 = .ok (.if_icmp .lt 18, 3) := by decide +kernel
theorem d_De_versionsFromTo_18 : decode b_De_versionsFromTo 18 = .ok (.iload 4, 2) := by decide +kernel
theorem d_De_versionsFromTo_20 : decode b_De_versionsFromTo 20 = .ok (.iload_n 1, 1) := by decide +kernel
theorem d_De_versionsFromTo_21 : decode b_De_versionsFromTo 21 = .ok (.if_icmp .gt 12, 3) := by decide +kernel
theorem d_De_versionsFromTo_24 : decode b_De_versionsFromTo 24 = .ok (.lload_n 2, 1) := by decide +kernel
theorem d_De_versionsFromTo_25 : decode b_De_versionsFromTo 25 = .ok (.ldc2_w 116, 3) := by decide +kernel
theorem d_De_versionsFromTo_28 : decode b_De_versionsFromTo 28 = .ok (.iload 4, 2) := by decide +kernel
theorem d_De_versionsFromTo_30 : decode b_De_versionsFromTo 30 = .ok (.lshl, 1) := by decide +kernel
theorem d_De_versionsFromTo_31 : decode b_De_versionsFromTo 31 = .ok (.lor, 1) := by decide +kernel
theorem d_De_versionsFromTo_32 : decode b_De_versionsFromTo 32 = .ok (.lstore_n 2, 1) := by decide +kernel
theorem d_De_versionsFromTo_33 : decode b_De_versionsFromTo 33 = .ok (.iinc 4 1, 3) := by decide +kernel
theorem d_De_versionsFromTo_36 : decode b_De_versionsFromTo 36 = .ok (.goto (-31), 3) := by decide +kernel
theorem d_De_versionsFromTo_39 : decode b_De_versionsFromTo 39 = .ok (.lload_n 2, 1) := by decide +kernel
theorem d_De_versionsFromTo_40 : decode b_De_versionsFromTo 40 = .ok (.lreturn, 1) := by decide +kernel
theorem d_De_bitPlace_0 : decode b_De_bitPlace 0 = .ok (.lload_n 0, 1) := by decide +kernel
theorem d_De_bitPlace_1 : decode b_De_bitPlace 1 = .ok (.lstore_n 3, 1) := by decide +kernel
theorem d_De_bitPlace_2 : decode b_De_bitPlace 2 = .ok (.iconst 0, 1) := by decide +kernel
theorem d_De_bitPlace_3 : decode b_De_bitPlace 3 = .ok (.istore 5, 2) := by decide +kernel
theorem d_De_bitPlace_5 : decode b_De_bitPlace 5 = .ok (.iload 5, 2) := by decide +kernel
theorem d_De_bitPlace_7 : decode b_De_bitPlace 7 = .ok (.iload_n 2, 1) := by decide +kernel
theorem d_De_bitPlace_8 : decode b_De_bitPlace 8 = .ok (.if_icmp .ge 15, 3) := by decide +kernel
theorem d_De_bitPlace_11 : decode b_De_bitPlace 11 = .ok (.lload_n 3, 1) := by decide +kernel
theorem d_De_bitPlace_12 : decode b_De_bitPlace 12 = .ok (.lload_n 3, 1) := by decide +kernel
theorem d_De_bitPlace_13 : decode b_De_bitPlace 13 = .ok (.lconst 1, 1) := by decide +kernel
theorem d_De_bitPlace_14 : decode b_De_bitPlace 14 = .ok (.lsub, 1) := by decide +kernel
theorem d_De_bitPlace_15 : decode b_De_bitPlace 15 = .ok (.land, 1) := by decide +kernel
theorem d_De_bitPlace_16 : decode b_De_bitPlace 16 = .ok (.lstore_n 3, 1) := by decide +kernel
theorem d_De_bitPlace_17 : decode b_De_bitPlace 17 = .ok (.iinc 5 1, 3) := by decide +kernel
theorem d_De_bitPlace_20 : decode b_De_bitPlace 20 = .ok (.goto (-15), 3) := by decide +kernel
theorem d_De_bitPlace_23 : decode b_De_bitPlace 23 = .ok (.lload_n 3, 1) := by decide +kernel
theorem d_De_bitPlace_24 : decode b_De_bitPlace 24 = .ok (.lload_n 3, 1) := by decide +kernel
theorem d_De_bitPlace_25 : decode b_De_bitPlace 25 = .ok (.lneg, 1) := by decide +kernel
theorem d_De_bitPlace_26 : decode b_De_bitPlace 26 = .ok (.land, 1) := by decide +kernel
theorem d_De_bitPlace_27 : decode b_De_bitPlace 27 = .ok (.lstore 5, 2) := by decide +kernel
theorem d_De_bitPlace_29 : decode b_De_bitPlace 29 = .ok (.lload 5, 2) := by decide +kernel
theorem d_De_bitPlace_31 : decode b_De_bitPlace 31 = .ok (.lconst 1, 1) := by decide +kernel
theorem d_De_bitPlace_32 : decode b_De_bitPlace 32 = .ok (.lsub, 1) := by decide +kernel
theorem d_De_bitPlace_33 : decode b_De_bitPlace 33 = .ok (.invokestatic 74, 3) := by decide +kernel
theorem d_De_bitPlace_36 : decode b_De_bitPlace 36 = .ok (.ireturn, 1) := by decide +kernel
