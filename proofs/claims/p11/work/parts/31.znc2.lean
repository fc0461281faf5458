theorem dX8_ofReals_26 : decode cX8_ofReals 26 = .ok (.dload 4, 2) := by decide +kernel
theorem dX8_ofReals_28 : decode cX8_ofReals 28 = .ok (.dadd, 1) := by decide +kernel
theorem dX8_ofReals_29 : decode cX8_ofReals 29 = .ok (.goto 33, 3) := by decide +kernel
theorem dX8_ofReals_32 : decode cX8_ofReals 32 = .ok (.iload_n 1, 1) := by decide +kernel
theorem dX8_ofReals_33 : decode cX8_ofReals 33 = .ok (.bipush 45, 2) := by decide +kernel
theorem dX8_ofReals_35 : decode cX8_ofReals 35 = .ok (.if_icmp .ne 10, 3) := by decide +kernel
theorem dX8_ofReals_38 : decode cX8_ofReals 38 = .ok (.dload_n 2, 1) := by decide +kernel
theorem dX8_ofReals_39 : decode cX8_ofReals 39 = .ok (.dload 4, 2) := by decide +kernel
theorem dX8_ofReals_41 : decode cX8_ofReals 41 = .ok (.dsub, 1) := by decide +kernel
theorem dX8_ofReals_42 : decode cX8_ofReals 42 = .ok (.goto 20, 3) := by decide +kernel
theorem dX8_ofReals_45 : decode cX8_ofReals 45 = .ok (.iload_n 1, 1) := by decide +kernel
theorem dX8_ofReals_46 : decode cX8_ofReals 46 = .ok (.bipush 42, 2) := by decide +kernel
theorem dX8_ofReals_48 : decode cX8_ofReals 48 = .ok (.if_icmp .ne 10, 3) := by decide +kernel
theorem dX8_ofReals_51 : decode cX8_ofReals 51 = .ok (.dload_n 2, 1) := by decide +kernel
theorem dX8_ofReals_52 : decode cX8_ofReals 52 = .ok (.dload 4, 2) := by decide +kernel
theorem dX8_ofReals_54 : decode cX8_ofReals 54 = .ok (.dmul, 1) := by decide +kernel
theorem dX8_ofReals_55 : decode cX8_ofReals 55 = .ok (.goto 7, 3) := by decide +kernel
theorem dX8_ofReals_58 : decode cX8_ofReals 58 = .ok (.dload_n 2, 1) := by decide +kernel
theorem dX8_ofReals_59 : decode cX8_ofReals 59 = .ok (.dload 4, 2) := by decide +kernel
theorem dX8_ofReals_61 : decode cX8_ofReals 61 = .ok (.ddiv, 1) := by decide +kernel
theorem dX8_ofReals_62 : decode cX8_ofReals 62 = .ok (.dstore 6, 2) := by decide +kernel
theorem dX8_ofReals_64 : decode cX8_ofReals 64 = .ok (.dload 6, 2) := by decide +kernel
theorem dX8_ofReals_66 : decode cX8_ofReals 66 = .ok (.ldc2_w 269, 3) := by decide +kernel
theorem dX8_ofReals_69 : decode cX8_ofReals 69 = .ok (.dcmp .l, 1) := by decide +kernel
theorem dX8_ofReals_70 : decode cX8_ofReals 70 = .ok (.ifCond .gt 12, 3) := by decide +kernel
theorem dX8_ofReals_73 : decode cX8_ofReals 73 = .ok (.dload 6, 2) := by decide +kernel
theorem dX8_ofReals_75 : decode cX8_ofReals 75 = .ok (.ldc2_w 271, 3) := by decide +kernel
theorem dX8_ofReals_78 : decode cX8_ofReals 78 = .ok (.dcmp .g, 1) := by decide +kernel
theorem dX8_ofReals_79 : decode cX8_ofReals 79 = .ok (.ifCond .ge 11, 3) := by decide +kernel
theorem dX8_ofReals_82 : decode cX8_ofReals 82 = .ok (.aload_n 0, 1) := by decide +kernel
theorem dX8_ofReals_83 : decode cX8_ofReals 83 = .ok (.iconst 3, 1) := by decide +kernel
theorem dX8_ofReals_84 : decode cX8_ofReals 84 = .ok (.invokevirtual 50, 3) := by decide +kernel
theorem dX8_ofReals_87 : decode cX8_ofReals 87 = .ok (.goto 8, 3) := by decide +kernel
theorem dX8_ofReals_90 : decode cX8_ofReals 90 = .ok (.dload 6, 2) := by decide +kernel
theorem dX8_ofReals_92 : decode cX8_ofReals 92 = .ok (.invokestatic 181, 3) := by decide +kernel
theorem dX8_ofReals_95 : decode cX8_ofReals 95 = .ok (.areturn, 1) := by decide +kernel
theorem dX8_variable_0 : decode cX8_variable 0 = .ok (.iconst 0, 1) := by decide +kernel
theorem dX8_variable_1 : decode cX8_variable 1 = .ok (.istore_n 2, 1) := by decide +kernel
theorem dX8_variable_2 : decode cX8_variable 2 = .ok (.iload_n 2, 1) := by decide +kernel
theorem dX8_variable_3 : decode cX8_variable 3 = .ok (.aload_n 0, 1) := by decide +kernel
theorem dX8_variable_4 : decode cX8_variable 4 = .ok (.getfield 273, 3) := by decide +kernel
theorem dX8_variable_7 : decode cX8_variable 7 = .ok (.if_icmp .ge 44, 3) := by decide +kernel
theorem dX8_variable_10 : decode cX8_variable 10 = .ok (.iload_n 2, 1) := by decide +kernel
theorem dX8_variable_11 : decode cX8_variable 11 = .ok (.aload_n 0, 1) := by decide +kernel
theorem dX8_variable_12 : decode cX8_variable 12 = .ok (.getfield 35, 3) := by decide +kernel
theorem dX8_variable_15 : decode cX8_variable 15 = .ok (.arraylength, 1) := by decide +kernel
theorem dX8_variable_16 : decode cX8_variable 16 = .ok (.if_icmp .ge 35, 3) := by decide +kernel
theorem dX8_variable_19 : decode cX8_variable 19 = .ok (.iload_n 2, 1) := by decide +kernel
theorem dX8_variable_20 : decode cX8_variable 20 = .ok (.aload_n 0, 1) := by decide +kernel
theorem dX8_variable_21 : decode cX8_variable 21 = .ok (.getfield 39, 3) := by decide +kernel
theorem dX8_variable_24 : decode cX8_variable 24 = .ok (.arraylength, 1) := by decide +kernel
theorem dX8_variable_25 : decode cX8_variable 25 = .ok (.if_icmp .ge 26, 3) := by decide +kernel
theorem dX8_variable_28 : decode cX8_variable 28 = .ok (.aload_n 0, 1) := by decide +kernel
theorem dX8_variable_29 : decode cX8_variable 29 = .ok (.getfield 35, 3) := by decide +kernel
theorem dX8_variable_32 : decode cX8_variable 32 = .ok (.iload_n 2, 1) := by decide +kernel
theorem dX8_variable_33 : decode cX8_variable 33 = .ok (.iaload, 1) := by decide +kernel
theorem dX8_variable_34 : decode cX8_variable 34 = .ok (.iload_n 1, 1) := by decide +kernel
theorem dX8_variable_35 : decode cX8_variable 35 = .ok (.if_icmp .ne 10, 3) := by decide +kernel
theorem dX8_variable_38 : decode cX8_variable 38 = .ok (.aload_n 0, 1) := by decide +kernel
theorem dX8_variable_39 : decode cX8_variable 39 = .ok (.getfield 39, 3) := by decide +kernel
theorem dX8_variable_42 : decode cX8_variable 42 = .ok (.iload_n 2, 1) := by decide +kernel
theorem dX8_variable_43 : decode cX8_variable 43 = .ok (.aaload, 1) := by decide +kernel
theorem dX8_variable_44 : decode cX8_variable 44 = .ok (.areturn, 1) := by decide +kernel
theorem dX8_variable_45 : decode cX8_variable 45 = .ok (.iinc 2 1, 3) := by decide +kernel
theorem dX8_variable_48 : decode cX8_variable 48 = .ok (.goto (-46), 3) := by decide +kernel
theorem dX8_variable_51 : decode cX8_variable 51 = .ok (.aload_n 0, 1) := by decide +kernel
theorem dX8_variable_52 : decode cX8_variable 52 = .ok (.getfield 15, 3) := by decide +kernel
theorem dX8_variable_55 : decode cX8_variable 55 = .ok (.areturn, 1) := by decide +kernel
theorem dX8_setVariable_0 : decode cX8_setVariable 0 = .ok (.iconst 0, 1) := by decide +kernel
theorem dX8_setVariable_1 : decode cX8_setVariable 1 = .ok (.istore_n 3, 1) := by decide +kernel
theorem dX8_setVariable_2 : decode cX8_setVariable 2 = .ok (.iload_n 3, 1) := by decide +kernel
theorem dX8_setVariable_3 : decode cX8_setVariable 3 = .ok (.aload_n 0, 1) := by decide +kernel
theorem dX8_setVariable_4 : decode cX8_setVariable 4 = .ok (.getfield 273, 3) := by decide +kernel
theorem dX8_setVariable_7 : decode cX8_setVariable 7 = .ok (.if_icmp .ge 28, 3) := by decide +kernel
theorem dX8_setVariable_10 : decode cX8_setVariable 10 = .ok (.iload_n 3, 1) := by decide +kernel
theorem dX8_setVariable_11 : decode cX8_setVariable 11 = .ok (.aload_n 0, 1) := by decide +kernel
theorem dX8_setVariable_12 : decode cX8_setVariable 12 = .ok (.getfield 35, 3) := by decide +kernel
theorem dX8_setVariable_15 : decode cX8_setVariable 15 = .ok (.arraylength, 1) := by decide +kernel
theorem dX8_setVariable_16 : decode cX8_setVariable 16 = .ok (.if_icmp .ge 19, 3) := by decide +kernel
theorem dX8_setVariable_19 : decode cX8_setVariable 19 = .ok (.aload_n 0, 1) := by decide +kernel
theorem dX8_setVariable_20 : decode cX8_setVariable 20 = .ok (.getfield 35, 3) := by decide +kernel
theorem dX8_setVariable_23 : decode cX8_setVariable 23 = .ok (.iload_n 3, 1) := by decide +kernel
theorem dX8_setVariable_24 : decode cX8_setVariable 24 = .ok (.iaload, 1) := by decide +kernel
theorem dX8_setVariable_25 : decode cX8_setVariable 25 = .ok (.iload_n 1, 1) := by decide +kernel
theorem dX8_setVariable_26 : decode cX8_setVariable 26 = .ok (.if_icmp .eq 9, 3) := by decide +kernel
theorem dX8_setVariable_29 : decode cX8_setVariable 29 = .ok (.iinc 3 1, 3) := by decide +kernel
theorem dX8_setVariable_32 : decode cX8_setVariable 32 = .ok (.goto (-30), 3) := by decide +kernel
theorem dX8_setVariable_35 : decode cX8_setVariable 35 = .ok (.iload_n 3, 1) := by decide +kernel
theorem dX8_setVariable_36 : decode cX8_setVariable 36 = .ok (.aload_n 0, 1) := by decide +kernel
theorem dX8_setVariable_37 : decode cX8_setVariable 37 = .ok (.getfield 35, 3) := by decide +kernel
theorem dX8_setVariable_40 : decode cX8_setVariable 40 = .ok (.arraylength, 1) := by decide +kernel
theorem dX8_setVariable_41 : decode cX8_setVariable 41 = .ok (.if_icmp .ge 12, 3) := by decide +kernel
theorem dX8_setVariable_44 : decode cX8_setVariable 44 = .ok (.iload_n 3, 1) := by decide +kernel
theorem dX8_setVariable_45 : decode cX8_setVariable 45 = .ok (.aload_n 0, 1) := by decide +kernel
theorem dX8_setVariable_46 : decode cX8_setVariable 46 = .ok (.getfield 39, 3) := by decide +kernel
theorem dX8_setVariable_49 : decode cX8_setVariable 49 = .ok (.arraylength, 1) := by decide +kernel
theorem dX8_setVariable_50 : decode cX8_setVariable 50 = .ok (.if_icmp .lt 5, 3) := by decide +kernel
theorem dX8_setVariable_53 : decode cX8_setVariable 53 = .ok (.iconst 0, 1) := by decide +kernel
theorem dX8_setVariable_54 : decode cX8_setVariable 54 = .ok (.ireturn, 1) := by decide +kernel
theorem dX8_setVariable_55 : decode cX8_setVariable 55 = .ok (.aload_n 0, 1) := by decide +kernel
theorem dX8_setVariable_56 : decode cX8_setVariable 56 = .ok (.getfield 35, 3) := by decide +kernel
theorem dX8_setVariable_59 : decode cX8_setVariable 59 = .ok (.iload_n 3, 1) := by decide +kernel
theorem dX8_setVariable_60 : decode cX8_setVariable 60 = .ok (.iload_n 1, 1) := by decide +kernel
theorem dX8_setVariable_61 : decode cX8_setVariable 61 = .ok (.iastore, 1) := by decide +kernel
theorem dX8_setVariable_62 : decode cX8_setVariable 62 = .ok (.aload_n 0, 1) := by decide +kernel
theorem dX8_setVariable_63 : decode cX8_setVariable 63 = .ok (.getfield 39, 3) := by decide +kernel
theorem dX8_setVariable_66 : decode cX8_setVariable 66 = .ok (.iload_n 3, 1) := by decide +kernel
theorem dX8_setVariable_67 : decode cX8_setVariable 67 = .ok (.aload_n 2, 1) := by decide +kernel
theorem dX8_setVariable_68 : decode cX8_setVariable 68 = .ok (.aastore, 1) := by decide +kernel
theorem dX8_setVariable_69 : decode cX8_setVariable 69 = .ok (.iload_n 3, 1) := by decide +kernel
theorem dX8_setVariable_70 : decode cX8_setVariable 70 = .ok (.aload_n 0, 1) := by decide +kernel
theorem dX8_setVariable_71 : decode cX8_setVariable 71 = .ok (.getfield 273, 3) := by decide +kernel
theorem dX8_setVariable_74 : decode cX8_setVariable 74 = .ok (.if_icmp .ne 13, 3) := by decide +kernel
theorem dX8_setVariable_77 : decode cX8_setVariable 77 = .ok (.aload_n 0, 1) := by decide +kernel
theorem dX8_setVariable_78 : decode cX8_setVariable 78 = .ok (.dup, 1) := by decide +kernel
theorem dX8_setVariable_79 : decode cX8_setVariable 79 = .ok (.getfield 273, 3) := by decide +kernel
theorem dX8_setVariable_82 : decode cX8_setVariable 82 = .ok (.iconst 1, 1) := by decide +kernel
theorem dX8_setVariable_83 : decode cX8_setVariable 83 = .ok (.iadd, 1) := by decide +kernel
theorem dX8_setVariable_84 : decode cX8_setVariable 84 = .ok (.putfield 273, 3) := by decide +kernel
theorem dX8_setVariable_87 : decode cX8_setVariable 87 = .ok (.iconst 1, 1) := by decide +kernel
theorem dX8_setVariable_88 : decode cX8_setVariable 88 = .ok (.ireturn, 1) := by decide +kernel
theorem dX9_init_0 : decode cX9_init 0 = .ok (.aload_n 0, 1) := by decide +kernel
theorem dX9_init_1 : decode cX9_init 1 = .ok (.invokespecial 3, 3) := by decide +kernel
theorem dX9_init_4 : decode cX9_init 4 = .ok (.aload_n 0, 1) := by decide +kernel
theorem dX9_init_5 : decode cX9_init 5 = .ok (.iload_n 1, 1) := by decide +kernel
theorem dX9_init_6 : decode cX9_init 6 = .ok (.putfield 9, 3) := by decide +kernel
theorem dX9_init_9 : decode cX9_init 9 = .ok (.aload_n 0, 1) := by decide +kernel
theorem dX9_init_10 : decode cX9_init 10 = .ok (.aload_n 2, 1) := by decide +kernel
theorem dX9_init_11 : decode cX9_init 11 = .ok (.putfield 15, 3) := by decide +kernel
theorem dX9_init_14 : decode cX9_init 14 = .ok (.aload_n 0, 1) := by decide +kernel
theorem dX9_init_15 : decode cX9_init 15 = .ok (.bipush 30, 2) := by decide +kernel
theorem dX9_init_17 : decode cX9_init 17 = .ok (.anewarray 19, 3) := by decide +kernel
theorem dX9_init_20 : decode cX9_init 20 = .ok (.putfield 21, 3) := by decide +kernel
theorem dX9_init_23 : decode cX9_init 23 = .ok (.iconst 0, 1) := by decide +kernel
theorem dX9_init_24 : decode cX9_init 24 = .ok (.istore 4, 2) := by decide +kernel
theorem dX9_init_26 : decode cX9_init 26 = .ok (.iload 4, 2) := by decide +kernel
theorem dX9_init_28 : decode cX9_init 28 = .ok (.aload_n 0, 1) := by decide +kernel
theorem dX9_init_29 : decode cX9_init 29 = .ok (.getfield 21, 3) := by decide +kernel
theorem dX9_init_32 : decode cX9_init 32 = .ok (.arraylength, 1) := by decide +kernel
theorem dX9_init_33 : decode cX9_init 33 = .ok (.if_icmp .ge 17, 3) := by decide +kernel
theorem dX9_init_36 : decode cX9_init 36 = .ok (.aload_n 0, 1) := by decide +kernel
theorem dX9_init_37 : decode cX9_init 37 = .ok (.getfield 21, 3) := by decide +kernel
theorem dX9_init_40 : decode cX9_init 40 = .ok (.iload 4, 2) := by decide +kernel
theorem dX9_init_42 : decode cX9_init 42 = .ok (.aload_n 3, 1) := by decide +kernel
theorem dX9_init_43 : decode cX9_init 43 = .ok (.aastore, 1) := by decide +kernel
theorem dX9_init_44 : decode cX9_init 44 = .ok (.iinc 4 1, 3) := by decide +kernel
theorem dX9_init_47 : decode cX9_init 47 = .ok (.goto (-21), 3) := by decide +kernel
theorem dX9_init_50 : decode cX9_init 50 = .ok (.return_, 1) := by decide +kernel
theorem dX9_valueOf_0 : decode cX9_valueOf 0 = .ok (.aload_n 0, 1) := by decide +kernel
theorem dX9_valueOf_1 : decode cX9_valueOf 1 = .ok (.getfield 15, 3) := by decide +kernel
theorem dX9_valueOf_4 : decode cX9_valueOf 4 = .ok (.iload_n 1, 1) := by decide +kernel
theorem dX9_valueOf_5 : decode cX9_valueOf 5 = .ok (.invokevirtual 25, 3) := by decide +kernel
theorem dX9_valueOf_8 : decode cX9_valueOf 8 = .ok (.astore_n 2, 1) := by decide +kernel
theorem dX9_valueOf_9 : decode cX9_valueOf 9 = .ok (.aload_n 2, 1) := by decide +kernel
theorem dX9_valueOf_10 : decode cX9_valueOf 10 = .ok (.ifnull 22, 3) := by decide +kernel
theorem dX9_valueOf_13 : decode cX9_valueOf 13 = .ok (.aload_n 2, 1) := by decide +kernel
theorem dX9_valueOf_14 : decode cX9_valueOf 14 = .ok (.getfield 31, 3) := by decide +kernel
theorem dX9_valueOf_17 : decode cX9_valueOf 17 = .ok (.ifCond .lt 15, 3) := by decide +kernel
theorem dX9_valueOf_20 : decode cX9_valueOf 20 = .ok (.aload_n 2, 1) := by decide +kernel
theorem dX9_valueOf_21 : decode cX9_valueOf 21 = .ok (.getfield 31, 3) := by decide +kernel
theorem dX9_valueOf_24 : decode cX9_valueOf 24 = .ok (.aload_n 0, 1) := by decide +kernel
theorem dX9_valueOf_25 : decode cX9_valueOf 25 = .ok (.getfield 21, 3) := by decide +kernel
theorem dX9_valueOf_28 : decode cX9_valueOf 28 = .ok (.arraylength, 1) := by decide +kernel
theorem dX9_valueOf_29 : decode cX9_valueOf 29 = .ok (.if_icmp .lt 5, 3) := by decide +kernel
theorem dX9_valueOf_32 : decode cX9_valueOf 32 = .ok (.aconst_null, 1) := by decide +kernel
theorem dX9_valueOf_33 : decode cX9_valueOf 33 = .ok (.areturn, 1) := by decide +kernel
theorem dX9_valueOf_34 : decode cX9_valueOf 34 = .ok (.aload_n 0, 1) := by decide +kernel
theorem dX9_valueOf_35 : decode cX9_valueOf 35 = .ok (.getfield 21, 3) := by decide +kernel
theorem dX9_valueOf_38 : decode cX9_valueOf 38 = .ok (.aload_n 2, 1) := by decide +kernel
theorem dX9_valueOf_39 : decode cX9_valueOf 39 = .ok (.getfield 31, 3) := by decide +kernel
theorem dX9_valueOf_42 : decode cX9_valueOf 42 = .ok (.aaload, 1) := by decide +kernel
theorem dX9_valueOf_43 : decode cX9_valueOf 43 = .ok (.areturn, 1) := by decide +kernel
theorem dX9_hold_0 : decode cX9_hold 0 = .ok (.aload_n 1, 1) := by decide +kernel
theorem dX9_hold_1 : decode cX9_hold 1 = .ok (.getfield 31, 3) := by decide +kernel
theorem dX9_hold_4 : decode cX9_hold 4 = .ok (.ifCond .lt 25, 3) := by decide +kernel
theorem dX9_hold_7 : decode cX9_hold 7 = .ok (.aload_n 1, 1) := by decide +kernel
theorem dX9_hold_8 : decode cX9_hold 8 = .ok (.getfield 31, 3) := by decide +kernel
theorem dX9_hold_11 : decode cX9_hold 11 = .ok (.aload_n 0, 1) := by decide +kernel
theorem dX9_hold_12 : decode cX9_hold 12 = .ok (.getfield 21, 3) := by decide +kernel
theorem dX9_hold_15 : decode cX9_hold 15 = .ok (.arraylength, 1) := by decide +kernel
theorem dX9_hold_16 : decode cX9_hold 16 = .ok (.if_icmp .ge 13, 3) := by decide +kernel
theorem dX9_hold_19 : decode cX9_hold 19 = .ok (.aload_n 0, 1) := by decide +kernel
theorem dX9_hold_20 : decode cX9_hold 20 = .ok (.getfield 21, 3) := by decide +kernel
theorem dX9_hold_23 : decode cX9_hold 23 = .ok (.aload_n 1, 1) := by decide +kernel
theorem dX9_hold_24 : decode cX9_hold 24 = .ok (.getfield 31, 3) := by decide +kernel
theorem dX9_hold_27 : decode cX9_hold 27 = .ok (.aload_n 2, 1) := by decide +kernel
theorem dX9_hold_28 : decode cX9_hold 28 = .ok (.aastore, 1) := by decide +kernel
theorem dX9_hold_29 : decode cX9_hold 29 = .ok (.return_, 1) := by decide +kernel
theorem dX10_init_0 : decode cX10_init 0 = .ok (.aload_n 0, 1) := by decide +kernel
theorem dX10_init_1 : decode cX10_init 1 = .ok (.invokespecial 3, 3) := by decide +kernel
theorem dX10_init_4 : decode cX10_init 4 = .ok (.aload_n 0, 1) := by decide +kernel
theorem dX10_init_5 : decode cX10_init 5 = .ok (.iload_n 1, 1) := by decide +kernel
theorem dX10_init_6 : decode cX10_init 6 = .ok (.putfield 9, 3) := by decide +kernel
theorem dX10_init_9 : decode cX10_init 9 = .ok (.aload_n 0, 1) := by decide +kernel
theorem dX10_init_10 : decode cX10_init 10 = .ok (.iload_n 2, 1) := by decide +kernel
theorem dX10_init_11 : decode cX10_init 11 = .ok (.putfield 15, 3) := by decide +kernel
theorem dX10_init_14 : decode cX10_init 14 = .ok (.aload_n 0, 1) := by decide +kernel
theorem dX10_init_15 : decode cX10_init 15 = .ok (.dload_n 3, 1) := by decide +kernel
theorem dX10_init_16 : decode cX10_init 16 = .ok (.putfield 18, 3) := by decide +kernel
theorem dX10_init_19 : decode cX10_init 19 = .ok (.aload_n 0, 1) := by decide +kernel
theorem dX10_init_20 : decode cX10_init 20 = .ok (.aload 5, 2) := by decide +kernel
theorem dX10_init_22 : decode cX10_init 22 = .ok (.putfield 22, 3) := by decide +kernel
theorem dX10_init_25 : decode cX10_init 25 = .ok (.aload_n 0, 1) := by decide +kernel
theorem dX10_init_26 : decode cX10_init 26 = .ok (.aload 6, 2) := by decide +kernel
theorem dX10_init_28 : decode cX10_init 28 = .ok (.putfield 26, 3) := by decide +kernel
theorem dX10_init_31 : decode cX10_init 31 = .ok (.return_, 1) := by decide +kernel
theorem dX10_ofNull_0 : decode cX10_ofNull 0 = .ok (.new 10, 3) := by decide +kernel
theorem dX10_ofNull_3 : decode cX10_ofNull 3 = .ok (.dup, 1) := by decide +kernel
theorem dX10_ofNull_4 : decode cX10_ofNull 4 = .ok (.iconst 0, 1) := by decide +kernel
theorem dX10_ofNull_5 : decode cX10_ofNull 5 = .ok (.iconst 0, 1) := by decide +kernel
theorem dX10_ofNull_6 : decode cX10_ofNull 6 = .ok (.dconst 0, 1) := by decide +kernel
theorem dX10_ofNull_7 : decode cX10_ofNull 7 = .ok (.ldc 30, 2) := by decide +kernel
theorem dX10_ofNull_9 : decode cX10_ofNull 9 = .ok (.aconst_null, 1) := by decide +kernel
theorem dX10_ofNull_10 : decode cX10_ofNull 10 = .ok (.invokespecial 32, 3) := by decide +kernel
theorem dX10_ofNull_13 : decode cX10_ofNull 13 = .ok (.areturn, 1) := by decide +kernel
theorem dX10_ofBool_0 : decode cX10_ofBool 0 = .ok (.new 10, 3) := by decide +kernel
theorem dX10_ofBool_3 : decode cX10_ofBool 3 = .ok (.dup, 1) := by decide +kernel
theorem dX10_ofBool_4 : decode cX10_ofBool 4 = .ok (.iconst 1, 1) := by decide +kernel
theorem dX10_ofBool_5 : decode cX10_ofBool 5 = .ok (.iload_n 0, 1) := by decide +kernel
theorem dX10_ofBool_6 : decode cX10_ofBool 6 = .ok (.ifCond .eq 7, 3) := by decide +kernel
theorem dX10_ofBool_9 : decode cX10_ofBool 9 = .ok (.iconst 1, 1) := by decide +kernel
theorem dX10_ofBool_10 : decode cX10_ofBool 10 = .ok (.goto 4, 3) := by decide +kernel
theorem dX10_ofBool_13 : decode cX10_ofBool 13 = .ok (.iconst 0, 1) := by decide +kernel
theorem dX10_ofBool_14 : decode cX10_ofBool 14 = .ok (.dconst 0, 1) := by decide +kernel
theorem dX10_ofBool_15 : decode cX10_ofBool 15 = .ok (.ldc 30, 2) := by decide +kernel
theorem dX10_ofBool_17 : decode cX10_ofBool 17 = .ok (.aconst_null, 1) := by decide +kernel
theorem dX10_ofBool_18 : decode cX10_ofBool 18 = .ok (.invokespecial 32, 3) := by decide +kernel
theorem dX10_ofBool_21 : decode cX10_ofBool 21 = .ok (.areturn, 1) := by decide +kernel
theorem dX10_ofInt_0 : decode cX10_ofInt 0 = .ok (.new 10, 3) := by decide +kernel
theorem dX10_ofInt_3 : decode cX10_ofInt 3 = .ok (.dup, 1) := by decide +kernel
theorem dX10_ofInt_4 : decode cX10_ofInt 4 = .ok (.iconst 2, 1) := by decide +kernel
theorem dX10_ofInt_5 : decode cX10_ofInt 5 = .ok (.iload_n 0, 1) := by decide +kernel
theorem dX10_ofInt_6 : decode cX10_ofInt 6 = .ok (.iload_n 0, 1) := by decide +kernel
theorem dX10_ofInt_7 : decode cX10_ofInt 7 = .ok (.i2d, 1) := by decide +kernel
theorem dX10_ofInt_8 : decode cX10_ofInt 8 = .ok (.ldc 30, 2) := by decide +kernel
theorem dX10_ofInt_10 : decode cX10_ofInt 10 = .ok (.aconst_null, 1) := by decide +kernel
theorem dX10_ofInt_11 : decode cX10_ofInt 11 = .ok (.invokespecial 32, 3) := by decide +kernel
theorem dX10_ofInt_14 : decode cX10_ofInt 14 = .ok (.areturn, 1) := by decide +kernel
theorem dX10_ofReal_0 : decode cX10_ofReal 0 = .ok (.new 10, 3) := by decide +kernel
theorem dX10_ofReal_3 : decode cX10_ofReal 3 = .ok (.dup, 1) := by decide +kernel
theorem dX10_ofReal_4 : decode cX10_ofReal 4 = .ok (.iconst 3, 1) := by decide +kernel
theorem dX10_ofReal_5 : decode cX10_ofReal 5 = .ok (.dload_n 0, 1) := by decide +kernel
theorem dX10_ofReal_6 : decode cX10_ofReal 6 = .ok (.d2i, 1) := by decide +kernel
theorem dX10_ofReal_7 : decode cX10_ofReal 7 = .ok (.dload_n 0, 1) := by decide +kernel
theorem dX10_ofReal_8 : decode cX10_ofReal 8 = .ok (.ldc 30, 2) := by decide +kernel
theorem dX10_ofReal_10 : decode cX10_ofReal 10 = .ok (.aconst_null, 1) := by decide +kernel
theorem dX10_ofReal_11 : decode cX10_ofReal 11 = .ok (.invokespecial 32, 3) := by decide +kernel
theorem dX10_ofReal_14 : decode cX10_ofReal 14 = .ok (.areturn, 1) := by decide +kernel
theorem dX10_ofText_0 : decode cX10_ofText 0 = .ok (.new 10, 3) := by decide +kernel
theorem dX10_ofText_3 : decode cX10_ofText 3 = .ok (.dup, 1) := by decide +kernel
theorem dX10_ofText_4 : decode cX10_ofText 4 = .ok (.iconst 4, 1) := by decide +kernel
theorem dX10_ofText_5 : decode cX10_ofText 5 = .ok (.aload_n 0, 1) := by decide +kernel
theorem dX10_ofText_6 : decode cX10_ofText 6 = .ok (.invokevirtual 35, 3) := by decide +kernel
theorem dX10_ofText_9 : decode cX10_ofText 9 = .ok (.dconst 0, 1) := by decide +kernel
theorem dX10_ofText_10 : decode cX10_ofText 10 = .ok (.aload_n 0, 1) := by decide +kernel
theorem dX10_ofText_11 : decode cX10_ofText 11 = .ok (.aconst_null, 1) := by decide +kernel
theorem dX10_ofText_12 : decode cX10_ofText 12 = .ok (.invokespecial 32, 3) := by decide +kernel
theorem dX10_ofText_15 : decode cX10_ofText 15 = .ok (.areturn, 1) := by decide +kernel
theorem dX10_ofThing_0 : decode cX10_ofThing 0 = .ok (.new 10, 3) := by decide +kernel
theorem dX10_ofThing_3 : decode cX10_ofThing 3 = .ok (.dup, 1) := by decide +kernel
theorem dX10_ofThing_4 : decode cX10_ofThing 4 = .ok (.aload_n 0, 1) := by decide +kernel
theorem dX10_ofThing_5 : decode cX10_ofThing 5 = .ok (.getfield 41, 3) := by decide +kernel
theorem dX10_ofThing_8 : decode cX10_ofThing 8 = .ok (.getfield 47, 3) := by decide +kernel
theorem dX10_ofThing_11 : decode cX10_ofThing 11 = .ok (.aload_n 0, 1) := by decide +kernel
theorem dX10_ofThing_12 : decode cX10_ofThing 12 = .ok (.getfield 50, 3) := by decide +kernel
theorem dX10_ofThing_15 : decode cX10_ofThing 15 = .ok (.dconst 0, 1) := by decide +kernel
theorem dX10_ofThing_16 : decode cX10_ofThing 16 = .ok (.ldc 30, 2) := by decide +kernel
theorem dX10_ofThing_18 : decode cX10_ofThing 18 = .ok (.aload_n 0, 1) := by decide +kernel
theorem dX10_ofThing_19 : decode cX10_ofThing 19 = .ok (.invokespecial 32, 3) := by decide +kernel
theorem dX10_ofThing_22 : decode cX10_ofThing 22 = .ok (.areturn, 1) := by decide +kernel
theorem dX10_isNumber_0 : decode cX10_isNumber 0 = .ok (.aload_n 0, 1) := by decide +kernel
theorem dX10_isNumber_1 : decode cX10_isNumber 1 = .ok (.getfield 9, 3) := by decide +kernel
theorem dX10_isNumber_4 : decode cX10_isNumber 4 = .ok (.iconst 2, 1) := by decide +kernel
theorem dX10_isNumber_5 : decode cX10_isNumber 5 = .ok (.if_icmp .eq 11, 3) := by decide +kernel
theorem dX10_isNumber_8 : decode cX10_isNumber 8 = .ok (.aload_n 0, 1) := by decide +kernel
theorem dX10_isNumber_9 : decode cX10_isNumber 9 = .ok (.getfield 9, 3) := by decide +kernel
theorem dX10_isNumber_12 : decode cX10_isNumber 12 = .ok (.iconst 3, 1) := by decide +kernel
theorem dX10_isNumber_13 : decode cX10_isNumber 13 = .ok (.if_icmp .ne 7, 3) := by decide +kernel
theorem dX10_isNumber_16 : decode cX10_isNumber 16 = .ok (.iconst 1, 1) := by decide +kernel
theorem dX10_isNumber_17 : decode cX10_isNumber 17 = .ok (.goto 4, 3) := by decide +kernel
theorem dX10_isNumber_20 : decode cX10_isNumber 20 = .ok (.iconst 0, 1) := by decide +kernel
theorem dX10_isNumber_21 : decode cX10_isNumber 21 = .ok (.ireturn, 1) := by decide +kernel
theorem dX10_isTrue_0 : decode cX10_isTrue 0 = .ok (.aload_n 0, 1) := by decide +kernel
theorem dX10_isTrue_1 : decode cX10_isTrue 1 = .ok (.getfield 9, 3) := by decide +kernel
theorem dX10_isTrue_4 : decode cX10_isTrue 4 = .ok (.iconst 1, 1) := by decide +kernel
theorem dX10_isTrue_5 : decode cX10_isTrue 5 = .ok (.if_icmp .ne 15, 3) := by decide +kernel
theorem dX10_isTrue_8 : decode cX10_isTrue 8 = .ok (.aload_n 0, 1) := by decide +kernel
theorem dX10_isTrue_9 : decode cX10_isTrue 9 = .ok (.getfield 15, 3) := by decide +kernel
theorem dX10_isTrue_12 : decode cX10_isTrue 12 = .ok (.iconst 1, 1) := by decide +kernel
theorem dX10_isTrue_13 : decode cX10_isTrue 13 = .ok (.if_icmp .ne 7, 3) := by decide +kernel
theorem dX10_isTrue_16 : decode cX10_isTrue 16 = .ok (.iconst 1, 1) := by decide +kernel
theorem dX10_isTrue_17 : decode cX10_isTrue 17 = .ok (.goto 4, 3) := by decide +kernel
theorem dX10_isTrue_20 : decode cX10_isTrue 20 = .ok (.iconst 0, 1) := by decide +kernel
theorem dX10_isTrue_21 : decode cX10_isTrue 21 = .ok (.ireturn, 1) := by decide +kernel
theorem dX10_fits_0 : decode cX10_fits 0 = .ok (.iload_n 1, 1) := by decide +kernel
theorem dX10_fits_1 : decode cX10_fits 1 = .ok (.iconst 5, 1) := by decide +kernel
theorem dX10_fits_2 : decode cX10_fits 2 = .ok (.if_icmp .eq 11, 3) := by decide +kernel
theorem dX10_fits_5 : decode cX10_fits 5 = .ok (.aload_n 0, 1) := by decide +kernel
theorem dX10_fits_6 : decode cX10_fits 6 = .ok (.getfield 9, 3) := by decide +kernel
theorem dX10_fits_9 : decode cX10_fits 9 = .ok (.iload_n 1, 1) := by decide +kernel
theorem dX10_fits_10 : decode cX10_fits 10 = .ok (.if_icmp .ne 5, 3) := by decide +kernel
theorem dX10_fits_13 : decode cX10_fits 13 = .ok (.iconst 1, 1) := by decide +kernel
theorem dX10_fits_14 : decode cX10_fits 14 = .ok (.ireturn, 1) := by decide +kernel
theorem dX10_fits_15 : decode cX10_fits 15 = .ok (.aload_n 0, 1) := by decide +kernel
theorem dX10_fits_16 : decode cX10_fits 16 = .ok (.getfield 9, 3) := by decide +kernel
theorem dX10_fits_19 : decode cX10_fits 19 = .ok (.ifCond .ne 20, 3) := by decide +kernel
theorem dX10_fits_22 : decode cX10_fits 22 = .ok (.iload_n 1, 1) := by decide +kernel
theorem dX10_fits_23 : decode cX10_fits 23 = .ok (.iconst 4, 1) := by decide +kernel
theorem dX10_fits_24 : decode cX10_fits 24 = .ok (.if_icmp .eq 9, 3) := by decide +kernel
theorem dX10_fits_27 : decode cX10_fits 27 = .ok (.iload_n 1, 1) := by decide +kernel
theorem dX10_fits_28 : decode cX10_fits 28 = .ok (.bipush 8, 2) := by decide +kernel
theorem dX10_fits_30 : decode cX10_fits 30 = .ok (.if_icmp .lt 7, 3) := by decide +kernel
theorem dX10_fits_33 : decode cX10_fits 33 = .ok (.iconst 1, 1) := by decide +kernel
theorem dX10_fits_34 : decode cX10_fits 34 = .ok (.goto 4, 3) := by decide +kernel
theorem dX10_fits_37 : decode cX10_fits 37 = .ok (.iconst 0, 1) := by decide +kernel
theorem dX10_fits_38 : decode cX10_fits 38 = .ok (.ireturn, 1) := by decide +kernel
theorem dX10_fits_39 : decode cX10_fits 39 = .ok (.aload_n 0, 1) := by decide +kernel
theorem dX10_fits_40 : decode cX10_fits 40 = .ok (.iload_n 1, 1) := by decide +kernel
theorem dX10_fits_41 : decode cX10_fits 41 = .ok (.invokevirtual 51, 3) := by decide +kernel
theorem dX10_fits_44 : decode cX10_fits 44 = .ok (.iconst (-1), 1) := by decide +kernel
theorem dX10_fits_45 : decode cX10_fits 45 = .ok (.if_icmp .eq 7, 3) := by decide +kernel
theorem dX10_fits_48 : decode cX10_fits 48 = .ok (.iconst 1, 1) := by decide +kernel
theorem dX10_fits_49 : decode cX10_fits 49 = .ok (.goto 4, 3) := by decide +kernel
theorem dX10_fits_52 : decode cX10_fits 52 = .ok (.iconst 0, 1) := by decide +kernel
theorem dX10_fits_53 : decode cX10_fits 53 = .ok (.ireturn, 1) := by decide +kernel
theorem dX10_weight_0 : decode cX10_weight 0 = .ok (.aload_n 0, 1) := by decide +kernel
theorem dX10_weight_1 : decode cX10_weight 1 = .ok (.getfield 9, 3) := by decide +kernel
theorem dX10_weight_4 : decode cX10_weight 4 = .ok (.iload_n 1, 1) := by decide +kernel
theorem dX10_weight_5 : decode cX10_weight 5 = .ok (.if_icmp .eq 10, 3) := by decide +kernel
theorem dX10_weight_8 : decode cX10_weight 8 = .ok (.aload_n 0, 1) := by decide +kernel
theorem dX10_weight_9 : decode cX10_weight 9 = .ok (.getfield 9, 3) := by decide +kernel
theorem dX10_weight_12 : decode cX10_weight 12 = .ok (.ifCond .ne 5, 3) := by decide +kernel
theorem dX10_weight_15 : decode cX10_weight 15 = .ok (.iconst 0, 1) := by decide +kernel
theorem dX10_weight_16 : decode cX10_weight 16 = .ok (.ireturn, 1) := by decide +kernel
theorem dX10_weight_17 : decode cX10_weight 17 = .ok (.iload_n 1, 1) := by decide +kernel
theorem dX10_weight_18 : decode cX10_weight 18 = .ok (.iconst 5, 1) := by decide +kernel
theorem dX10_weight_19 : decode cX10_weight 19 = .ok (.if_icmp .ne 8, 3) := by decide +kernel
theorem dX10_weight_22 : decode cX10_weight 22 = .ok (.bipush 16, 2) := by decide +kernel
theorem dX10_weight_24 : decode cX10_weight 24 = .ok (.goto 10, 3) := by decide +kernel
theorem dX10_weight_27 : decode cX10_weight 27 = .ok (.iconst 2, 1) := by decide +kernel
theorem dX10_weight_28 : decode cX10_weight 28 = .ok (.aload_n 0, 1) := by decide +kernel
theorem dX10_weight_29 : decode cX10_weight 29 = .ok (.iload_n 1, 1) := by decide +kernel
theorem dX10_weight_30 : decode cX10_weight 30 = .ok (.invokevirtual 51, 3) := by decide +kernel
theorem dX10_weight_33 : decode cX10_weight 33 = .ok (.imul, 1) := by decide +kernel
theorem dX10_weight_34 : decode cX10_weight 34 = .ok (.ireturn, 1) := by decide +kernel
theorem dX10_stepsUpTo_0 : decode cX10_stepsUpTo 0 = .ok (.iconst 0, 1) := by decide +kernel
theorem dX10_stepsUpTo_1 : decode cX10_stepsUpTo 1 = .ok (.istore_n 2, 1) := by decide +kernel
theorem dX10_stepsUpTo_2 : decode cX10_stepsUpTo 2 = .ok (.aload_n 0, 1) := by decide +kernel
theorem dX10_stepsUpTo_3 : decode cX10_stepsUpTo 3 = .ok (.getfield 26, 3) := by decide +kernel
theorem dX10_stepsUpTo_6 : decode cX10_stepsUpTo 6 = .ok (.ifnonnull 7, 3) := by decide +kernel
theorem dX10_stepsUpTo_9 : decode cX10_stepsUpTo 9 = .ok (.aconst_null, 1) := by decide +kernel
theorem dX10_stepsUpTo_10 : decode cX10_stepsUpTo 10 = .ok (.goto 10, 3) := by decide +kernel
theorem dX10_stepsUpTo_13 : decode cX10_stepsUpTo 13 = .ok (.aload_n 0, 1) := by decide +kernel
theorem dX10_stepsUpTo_14 : decode cX10_stepsUpTo 14 = .ok (.getfield 26, 3) := by decide +kernel
theorem dX10_stepsUpTo_17 : decode cX10_stepsUpTo 17 = .ok (.getfield 41, 3) := by decide +kernel
theorem dX10_stepsUpTo_20 : decode cX10_stepsUpTo 20 = .ok (.astore_n 3, 1) := by decide +kernel
theorem dX10_stepsUpTo_21 : decode cX10_stepsUpTo 21 = .ok (.aload_n 3, 1) := by decide +kernel
theorem dX10_stepsUpTo_22 : decode cX10_stepsUpTo 22 = .ok (.ifnull 24, 3) := by decide +kernel
theorem dX10_stepsUpTo_25 : decode cX10_stepsUpTo 25 = .ok (.aload_n 3, 1) := by decide +kernel
theorem dX10_stepsUpTo_26 : decode cX10_stepsUpTo 26 = .ok (.getfield 47, 3) := by decide +kernel
theorem dX10_stepsUpTo_29 : decode cX10_stepsUpTo 29 = .ok (.iload_n 1, 1) := by decide +kernel
theorem dX10_stepsUpTo_30 : decode cX10_stepsUpTo 30 = .ok (.if_icmp .ne 5, 3) := by decide +kernel
theorem dX10_stepsUpTo_33 : decode cX10_stepsUpTo 33 = .ok (.iload_n 2, 1) := by decide +kernel
theorem dX10_stepsUpTo_34 : decode cX10_stepsUpTo 34 = .ok (.ireturn, 1) := by decide +kernel
theorem dX10_stepsUpTo_35 : decode cX10_stepsUpTo 35 = .ok (.iinc 2 1, 3) := by decide +kernel
theorem dX10_stepsUpTo_38 : decode cX10_stepsUpTo 38 = .ok (.aload_n 3, 1) := by decide +kernel
theorem dX10_stepsUpTo_39 : decode cX10_stepsUpTo 39 = .ok (.getfield 55, 3) := by decide +kernel
theorem dX10_stepsUpTo_42 : decode cX10_stepsUpTo 42 = .ok (.astore_n 3, 1) := by decide +kernel
theorem dX10_stepsUpTo_43 : decode cX10_stepsUpTo 43 = .ok (.goto (-22), 3) := by decide +kernel
theorem dX10_stepsUpTo_46 : decode cX10_stepsUpTo 46 = .ok (.iconst (-1), 1) := by decide +kernel
theorem dX10_stepsUpTo_47 : decode cX10_stepsUpTo 47 = .ok (.ireturn, 1) := by decide +kernel
theorem dX11_init_0 : decode cX11_init 0 = .ok (.aload_n 0, 1) := by decide +kernel
theorem dX11_init_1 : decode cX11_init 1 = .ok (.invokespecial 1, 3) := by decide +kernel
theorem dX11_init_4 : decode cX11_init 4 = .ok (.aload_n 0, 1) := by decide +kernel
theorem dX11_init_5 : decode cX11_init 5 = .ok (.new 7, 3) := by decide +kernel
theorem dX11_init_8 : decode cX11_init 8 = .ok (.dup, 1) := by decide +kernel
theorem dX11_init_9 : decode cX11_init 9 = .ok (.invokespecial 9, 3) := by decide +kernel
theorem dX11_init_12 : decode cX11_init 12 = .ok (.putfield 10, 3) := by decide +kernel
theorem dX11_init_15 : decode cX11_init 15 = .ok (.aload_n 0, 1) := by decide +kernel
theorem dX11_init_16 : decode cX11_init 16 = .ok (.new 16, 3) := by decide +kernel
theorem dX11_init_19 : decode cX11_init 19 = .ok (.dup, 1) := by decide +kernel
theorem dX11_init_20 : decode cX11_init 20 = .ok (.invokespecial 18, 3) := by decide +kernel
theorem dX11_init_23 : decode cX11_init 23 = .ok (.putfield 19, 3) := by decide +kernel
theorem dX11_init_26 : decode cX11_init 26 = .ok (.aload_n 0, 1) := by decide +kernel
theorem dX11_init_27 : decode cX11_init 27 = .ok (.bipush 40, 2) := by decide +kernel
theorem dX11_init_29 : decode cX11_init 29 = .ok (.anewarray 23, 3) := by decide +kernel
theorem dX11_init_32 : decode cX11_init 32 = .ok (.putfield 25, 3) := by decide +kernel
theorem dX11_init_35 : decode cX11_init 35 = .ok (.aload_n 0, 1) := by decide +kernel
theorem dX11_init_36 : decode cX11_init 36 = .ok (.iconst 5, 1) := by decide +kernel
theorem dX11_init_37 : decode cX11_init 37 = .ok (.anewarray 29, 3) := by decide +kernel
theorem dX11_init_40 : decode cX11_init 40 = .ok (.putfield 31, 3) := by decide +kernel
theorem dX11_init_43 : decode cX11_init 43 = .ok (.aload_n 0, 1) := by decide +kernel
theorem dX11_init_44 : decode cX11_init 44 = .ok (.bipush 30, 2) := by decide +kernel
theorem dX11_init_46 : decode cX11_init 46 = .ok (.anewarray 35, 3) := by decide +kernel
theorem dX11_init_49 : decode cX11_init 49 = .ok (.putfield 37, 3) := by decide +kernel
theorem dX11_init_52 : decode cX11_init 52 = .ok (.aload_n 0, 1) := by decide +kernel
theorem dX11_init_53 : decode cX11_init 53 = .ok (.invokestatic 41, 3) := by decide +kernel
theorem dX11_init_56 : decode cX11_init 56 = .ok (.putfield 45, 3) := by decide +kernel
theorem dX11_init_59 : decode cX11_init 59 = .ok (.return_, 1) := by decide +kernel
theorem dX11_letter_0 : decode cX11_letter 0 = .ok (.iload_n 1, 1) := by decide +kernel
theorem dX11_letter_1 : decode cX11_letter 1 = .ok (.bipush 32, 2) := by decide +kernel
theorem dX11_letter_3 : decode cX11_letter 3 = .ok (.if_icmp .lt 9, 3) := by decide +kernel
theorem dX11_letter_6 : decode cX11_letter 6 = .ok (.iload_n 1, 1) := by decide +kernel
theorem dX11_letter_7 : decode cX11_letter 7 = .ok (.bipush 126, 2) := by decide +kernel
theorem dX11_letter_9 : decode cX11_letter 9 = .ok (.if_icmp .le 13, 3) := by decide +kernel
theorem dX11_letter_12 : decode cX11_letter 12 = .ok (.new 49, 3) := by decide +kernel
theorem dX11_letter_15 : decode cX11_letter 15 = .ok (.dup, 1) := by decide +kernel
theorem dX11_letter_16 : decode cX11_letter 16 = .ok (.ldc 51, 2) := by decide +kernel
theorem dX11_letter_18 : decode cX11_letter 18 = .ok (.invokespecial 53, 3) := by decide +kernel
theorem dX11_letter_21 : decode cX11_letter 21 = .ok (.athrow, 1) := by decide +kernel
theorem dX11_letter_22 : decode cX11_letter 22 = .ok (.aload_n 0, 1) := by decide +kernel
theorem dX11_letter_23 : decode cX11_letter 23 = .ok (.getfield 10, 3) := by decide +kernel
theorem dX11_letter_26 : decode cX11_letter 26 = .ok (.getfield 56, 3) := by decide +kernel
theorem dX11_letter_29 : decode cX11_letter 29 = .ok (.getfield 60, 3) := by decide +kernel
theorem dX11_letter_32 : decode cX11_letter 32 = .ok (.bipush 40, 2) := by decide +kernel
theorem dX11_letter_34 : decode cX11_letter 34 = .ok (.if_icmp .lt 13, 3) := by decide +kernel
theorem dX11_letter_37 : decode cX11_letter 37 = .ok (.new 66, 3) := by decide +kernel
theorem dX11_letter_40 : decode cX11_letter 40 = .ok (.dup, 1) := by decide +kernel
theorem dX11_letter_41 : decode cX11_letter 41 = .ok (.ldc 68, 2) := by decide +kernel
theorem dX11_letter_43 : decode cX11_letter 43 = .ok (.invokespecial 70, 3) := by decide +kernel
theorem dX11_letter_46 : decode cX11_letter 46 = .ok (.athrow, 1) := by decide +kernel
theorem dX11_letter_47 : decode cX11_letter 47 = .ok (.aload_n 0, 1) := by decide +kernel
theorem dX11_letter_48 : decode cX11_letter 48 = .ok (.getfield 10, 3) := by decide +kernel
theorem dX11_letter_51 : decode cX11_letter 51 = .ok (.getfield 56, 3) := by decide +kernel
theorem dX11_letter_54 : decode cX11_letter 54 = .ok (.iload_n 1, 1) := by decide +kernel
theorem dX11_letter_55 : decode cX11_letter 55 = .ok (.i2c, 1) := by decide +kernel
theorem dX11_letter_56 : decode cX11_letter 56 = .ok (.invokevirtual 71, 3) := by decide +kernel
theorem dX11_letter_59 : decode cX11_letter 59 = .ok (.aload_n 0, 1) := by decide +kernel
theorem dX11_letter_60 : decode cX11_letter 60 = .ok (.getfield 10, 3) := by decide +kernel
theorem dX11_letter_63 : decode cX11_letter 63 = .ok (.getfield 56, 3) := by decide +kernel
theorem dX11_letter_66 : decode cX11_letter 66 = .ok (.getfield 60, 3) := by decide +kernel
theorem dX11_letter_69 : decode cX11_letter 69 = .ok (.ireturn, 1) := by decide +kernel
theorem dX11_parse_0 : decode cX11_parse 0 = .ok (.aload_n 0, 1) := by decide +kernel
theorem dX11_parse_1 : decode cX11_parse 1 = .ok (.getfield 75, 3) := by decide +kernel
theorem dX11_parse_4 : decode cX11_parse 4 = .ok (.aload_n 0, 1) := by decide +kernel
theorem dX11_parse_5 : decode cX11_parse 5 = .ok (.getfield 25, 3) := by decide +kernel
theorem dX11_parse_8 : decode cX11_parse 8 = .ok (.arraylength, 1) := by decide +kernel
theorem dX11_parse_9 : decode cX11_parse 9 = .ok (.if_icmp .lt 13, 3) := by decide +kernel
theorem dX11_parse_12 : decode cX11_parse 12 = .ok (.new 66, 3) := by decide +kernel
theorem dX11_parse_15 : decode cX11_parse 15 = .ok (.dup, 1) := by decide +kernel
theorem dX11_parse_16 : decode cX11_parse 16 = .ok (.ldc 78, 2) := by decide +kernel
theorem dX11_parse_18 : decode cX11_parse 18 = .ok (.invokespecial 70, 3) := by decide +kernel
theorem dX11_parse_21 : decode cX11_parse 21 = .ok (.athrow, 1) := by decide +kernel
theorem dX11_parse_22 : decode cX11_parse 22 = .ok (.aload_n 0, 1) := by decide +kernel
theorem dX11_parse_23 : decode cX11_parse 23 = .ok (.getfield 10, 3) := by decide +kernel
theorem dX11_parse_26 : decode cX11_parse 26 = .ok (.invokevirtual 80, 3) := by decide +kernel
theorem dX11_parse_29 : decode cX11_parse 29 = .ok (.astore_n 1, 1) := by decide +kernel
theorem dX11_parse_30 : decode cX11_parse 30 = .ok (.aload_n 1, 1) := by decide +kernel
theorem dX11_parse_31 : decode cX11_parse 31 = .ok (.ifnonnull 23, 3) := by decide +kernel
theorem dX11_parse_34 : decode cX11_parse 34 = .ok (.sipush (-1000), 3) := by decide +kernel
theorem dX11_parse_37 : decode cX11_parse 37 = .ok (.aload_n 0, 1) := by decide +kernel
theorem dX11_parse_38 : decode cX11_parse 38 = .ok (.getfield 10, 3) := by decide +kernel
theorem dX11_parse_41 : decode cX11_parse 41 = .ok (.getfield 84, 3) := by decide +kernel
theorem dX11_parse_44 : decode cX11_parse 44 = .ok (.imul, 1) := by decide +kernel
theorem dX11_parse_45 : decode cX11_parse 45 = .ok (.aload_n 0, 1) := by decide +kernel
theorem dX11_parse_46 : decode cX11_parse 46 = .ok (.getfield 10, 3) := by decide +kernel
theorem dX11_parse_49 : decode cX11_parse 49 = .ok (.getfield 87, 3) := by decide +kernel
theorem dX11_parse_52 : decode cX11_parse 52 = .ok (.isub, 1) := by decide +kernel
theorem dX11_parse_53 : decode cX11_parse 53 = .ok (.ireturn, 1) := by decide +kernel
theorem dX11_parse_54 : decode cX11_parse 54 = .ok (.aload_n 0, 1) := by decide +kernel
theorem dX11_parse_55 : decode cX11_parse 55 = .ok (.getfield 25, 3) := by decide +kernel
theorem dX11_parse_58 : decode cX11_parse 58 = .ok (.aload_n 0, 1) := by decide +kernel
theorem dX11_parse_59 : decode cX11_parse 59 = .ok (.getfield 75, 3) := by decide +kernel
theorem dX11_parse_62 : decode cX11_parse 62 = .ok (.aload_n 1, 1) := by decide +kernel
theorem dX11_parse_63 : decode cX11_parse 63 = .ok (.aastore, 1) := by decide +kernel
theorem dX11_parse_64 : decode cX11_parse 64 = .ok (.aload_n 0, 1) := by decide +kernel
theorem dX11_parse_65 : decode cX11_parse 65 = .ok (.dup, 1) := by decide +kernel
theorem dX11_parse_66 : decode cX11_parse 66 = .ok (.getfield 75, 3) := by decide +kernel
theorem dX11_parse_69 : decode cX11_parse 69 = .ok (.iconst 1, 1) := by decide +kernel
theorem dX11_parse_70 : decode cX11_parse 70 = .ok (.iadd, 1) := by decide +kernel
theorem dX11_parse_71 : decode cX11_parse 71 = .ok (.putfield 75, 3) := by decide +kernel
theorem dX11_parse_74 : decode cX11_parse 74 = .ok (.aload_n 0, 1) := by decide +kernel
theorem dX11_parse_75 : decode cX11_parse 75 = .ok (.getfield 75, 3) := by decide +kernel
theorem dX11_parse_78 : decode cX11_parse 78 = .ok (.iconst 1, 1) := by decide +kernel
theorem dX11_parse_79 : decode cX11_parse 79 = .ok (.isub, 1) := by decide +kernel
theorem dX11_parse_80 : decode cX11_parse 80 = .ok (.ireturn, 1) := by decide +kernel
theorem dX11_type_0 : decode cX11_type 0 = .ok (.aload_n 0, 1) := by decide +kernel
theorem dX11_type_1 : decode cX11_type 1 = .ok (.iload_n 1, 1) := by decide +kernel
theorem dX11_type_2 : decode cX11_type 2 = .ok (.invokevirtual 90, 3) := by decide +kernel
theorem dX11_type_5 : decode cX11_type 5 = .ok (.astore_n 2, 1) := by decide +kernel
theorem dX11_type_6 : decode cX11_type 6 = .ok (.aload_n 2, 1) := by decide +kernel
theorem dX11_type_7 : decode cX11_type 7 = .ok (.ifnonnull 18, 3) := by decide +kernel
theorem dX11_type_10 : decode cX11_type 10 = .ok (.iload_n 1, 1) := by decide +kernel
theorem dX11_type_11 : decode cX11_type 11 = .ok (.iconst (-1), 1) := by decide +kernel
theorem dX11_type_12 : decode cX11_type 12 = .ok (.if_icmp .eq 13, 3) := by decide +kernel
theorem dX11_type_15 : decode cX11_type 15 = .ok (.new 49, 3) := by decide +kernel
theorem dX11_type_18 : decode cX11_type 18 = .ok (.dup, 1) := by decide +kernel
theorem dX11_type_19 : decode cX11_type 19 = .ok (.ldc 94, 2) := by decide +kernel
theorem dX11_type_21 : decode cX11_type 21 = .ok (.invokespecial 53, 3) := by decide +kernel
theorem dX11_type_24 : decode cX11_type 24 = .ok (.athrow, 1) := by decide +kernel
theorem dX11_type_25 : decode cX11_type 25 = .ok (.aload_n 0, 1) := by decide +kernel
theorem dX11_type_26 : decode cX11_type 26 = .ok (.getfield 96, 3) := by decide +kernel
theorem dX11_type_29 : decode cX11_type 29 = .ok (.aload_n 0, 1) := by decide +kernel
theorem dX11_type_30 : decode cX11_type 30 = .ok (.getfield 31, 3) := by decide +kernel
theorem dX11_type_33 : decode cX11_type 33 = .ok (.arraylength, 1) := by decide +kernel
theorem dX11_type_34 : decode cX11_type 34 = .ok (.if_icmp .lt 13, 3) := by decide +kernel
theorem dX11_type_37 : decode cX11_type 37 = .ok (.new 66, 3) := by decide +kernel
theorem dX11_type_40 : decode cX11_type 40 = .ok (.dup, 1) := by decide +kernel
theorem dX11_type_41 : decode cX11_type 41 = .ok (.ldc 99, 2) := by decide +kernel
theorem dX11_type_43 : decode cX11_type 43 = .ok (.invokespecial 70, 3) := by decide +kernel
theorem dX11_type_46 : decode cX11_type 46 = .ok (.athrow, 1) := by decide +kernel
theorem dX11_type_47 : decode cX11_type 47 = .ok (.aload_n 0, 1) := by decide +kernel
theorem dX11_type_48 : decode cX11_type 48 = .ok (.getfield 31, 3) := by decide +kernel
theorem dX11_type_51 : decode cX11_type 51 = .ok (.aload_n 0, 1) := by decide +kernel
theorem dX11_type_52 : decode cX11_type 52 = .ok (.getfield 96, 3) := by decide +kernel
theorem dX11_type_55 : decode cX11_type 55 = .ok (.new 29, 3) := by decide +kernel
theorem dX11_type_58 : decode cX11_type 58 = .ok (.dup, 1) := by decide +kernel
theorem dX11_type_59 : decode cX11_type 59 = .ok (.aload_n 0, 1) := by decide +kernel
theorem dX11_type_60 : decode cX11_type 60 = .ok (.getfield 96, 3) := by decide +kernel
theorem dX11_type_63 : decode cX11_type 63 = .ok (.aload_n 2, 1) := by decide +kernel
theorem dX11_type_64 : decode cX11_type 64 = .ok (.invokespecial 101, 3) := by decide +kernel
theorem dX11_type_67 : decode cX11_type 67 = .ok (.aastore, 1) := by decide +kernel
theorem dX11_type_68 : decode cX11_type 68 = .ok (.aload_n 0, 1) := by decide +kernel
theorem dX11_type_69 : decode cX11_type 69 = .ok (.dup, 1) := by decide +kernel
theorem dX11_type_70 : decode cX11_type 70 = .ok (.getfield 96, 3) := by decide +kernel
theorem dX11_type_73 : decode cX11_type 73 = .ok (.iconst 1, 1) := by decide +kernel
theorem dX11_type_74 : decode cX11_type 74 = .ok (.iadd, 1) := by decide +kernel
theorem dX11_type_75 : decode cX11_type 75 = .ok (.putfield 96, 3) := by decide +kernel
theorem dX11_type_78 : decode cX11_type 78 = .ok (.aload_n 0, 1) := by decide +kernel
theorem dX11_type_79 : decode cX11_type 79 = .ok (.getfield 96, 3) := by decide +kernel
theorem dX11_type_82 : decode cX11_type 82 = .ok (.iconst 1, 1) := by decide +kernel
theorem dX11_type_83 : decode cX11_type 83 = .ok (.isub, 1) := by decide +kernel
theorem dX11_type_84 : decode cX11_type 84 = .ok (.ireturn, 1) := by decide +kernel
theorem dX11_field_0 : decode cX11_field 0 = .ok (.aload_n 0, 1) := by decide +kernel
theorem dX11_field_1 : decode cX11_field 1 = .ok (.iload_n 1, 1) := by decide +kernel
theorem dX11_field_2 : decode cX11_field 2 = .ok (.invokevirtual 90, 3) := by decide +kernel
theorem dX11_field_5 : decode cX11_field 5 = .ok (.astore 4, 2) := by decide +kernel
theorem dX11_field_7 : decode cX11_field 7 = .ok (.aload 4, 2) := by decide +kernel
theorem dX11_field_9 : decode cX11_field 9 = .ok (.ifnull 18, 3) := by decide +kernel
theorem dX11_field_12 : decode cX11_field 12 = .ok (.iload_n 2, 1) := by decide +kernel
theorem dX11_field_13 : decode cX11_field 13 = .ok (.invokestatic 104, 3) := by decide +kernel
theorem dX11_field_16 : decode cX11_field 16 = .ok (.ifCond .eq 11, 3) := by decide +kernel
theorem dX11_field_19 : decode cX11_field 19 = .ok (.aload_n 0, 1) := by decide +kernel
theorem dX11_field_20 : decode cX11_field 20 = .ok (.iload_n 3, 1) := by decide +kernel
theorem dX11_field_21 : decode cX11_field 21 = .ok (.invokevirtual 108, 3) := by decide +kernel
theorem dX11_field_24 : decode cX11_field 24 = .ok (.ifCond .ne 13, 3) := by decide +kernel
theorem dX11_field_27 : decode cX11_field 27 = .ok (.new 49, 3) := by decide +kernel
theorem dX11_field_30 : decode cX11_field 30 = .ok (.dup, 1) := by decide +kernel
theorem dX11_field_31 : decode cX11_field 31 = .ok (.ldc 111, 2) := by decide +kernel
theorem dX11_field_33 : decode cX11_field 33 = .ok (.invokespecial 53, 3) := by decide +kernel
theorem dX11_field_36 : decode cX11_field 36 = .ok (.athrow, 1) := by decide +kernel
theorem dX11_field_37 : decode cX11_field 37 = .ok (.aload 4, 2) := by decide +kernel
theorem dX11_field_39 : decode cX11_field 39 = .ok (.getfield 113, 3) := by decide +kernel
theorem dX11_field_42 : decode cX11_field 42 = .ok (.bipush 6, 2) := by decide +kernel
theorem dX11_field_44 : decode cX11_field 44 = .ok (.if_icmp .ge 19, 3) := by decide +kernel
theorem dX11_field_47 : decode cX11_field 47 = .ok (.aload 4, 2) := by decide +kernel
theorem dX11_field_49 : decode cX11_field 49 = .ok (.iload_n 2, 1) := by decide +kernel
theorem dX11_field_50 : decode cX11_field 50 = .ok (.invokevirtual 116, 3) := by decide +kernel
theorem dX11_field_53 : decode cX11_field 53 = .ok (.ifnonnull 10, 3) := by decide +kernel
theorem dX11_field_56 : decode cX11_field 56 = .ok (.aload_n 0, 1) := by decide +kernel
theorem dX11_field_57 : decode cX11_field 57 = .ok (.getfield 120, 3) := by decide +kernel
theorem dX11_field_60 : decode cX11_field 60 = .ok (.ifCond .le 13, 3) := by decide +kernel
theorem dX11_field_63 : decode cX11_field 63 = .ok (.new 66, 3) := by decide +kernel
theorem dX11_field_66 : decode cX11_field 66 = .ok (.dup, 1) := by decide +kernel
theorem dX11_field_67 : decode cX11_field 67 = .ok (.ldc 123, 2) := by decide +kernel
theorem dX11_field_69 : decode cX11_field 69 = .ok (.invokespecial 70, 3) := by decide +kernel
theorem dX11_field_72 : decode cX11_field 72 = .ok (.athrow, 1) := by decide +kernel
theorem dX11_field_73 : decode cX11_field 73 = .ok (.aload 4, 2) := by decide +kernel
theorem dX11_field_75 : decode cX11_field 75 = .ok (.iload_n 2, 1) := by decide +kernel
theorem dX11_field_76 : decode cX11_field 76 = .ok (.iload_n 3, 1) := by decide +kernel
theorem dX11_field_77 : decode cX11_field 77 = .ok (.invokevirtual 125, 3) := by decide +kernel
theorem dX11_field_80 : decode cX11_field 80 = .ok (.aload 4, 2) := by decide +kernel
theorem dX11_field_82 : decode cX11_field 82 = .ok (.getfield 113, 3) := by decide +kernel
theorem dX11_field_85 : decode cX11_field 85 = .ok (.ireturn, 1) := by decide +kernel
theorem dX11_method_0 : decode cX11_method 0 = .ok (.aload_n 0, 1) := by decide +kernel
theorem dX11_method_1 : decode cX11_method 1 = .ok (.iload_n 1, 1) := by decide +kernel
theorem dX11_method_2 : decode cX11_method 2 = .ok (.invokevirtual 90, 3) := by decide +kernel
theorem dX11_method_5 : decode cX11_method 5 = .ok (.astore 7, 2) := by decide +kernel
theorem dX11_method_7 : decode cX11_method 7 = .ok (.aload 7, 2) := by decide +kernel
theorem dX11_method_9 : decode cX11_method 9 = .ok (.ifnull 31, 3) := by decide +kernel
theorem dX11_method_12 : decode cX11_method 12 = .ok (.iload_n 2, 1) := by decide +kernel
theorem dX11_method_13 : decode cX11_method 13 = .ok (.invokestatic 104, 3) := by decide +kernel
theorem dX11_method_16 : decode cX11_method 16 = .ok (.ifCond .eq 24, 3) := by decide +kernel
theorem dX11_method_19 : decode cX11_method 19 = .ok (.iload 5, 2) := by decide +kernel
theorem dX11_method_21 : decode cX11_method 21 = .ok (.ifCond .lt 19, 3) := by decide +kernel
theorem dX11_method_24 : decode cX11_method 24 = .ok (.iload 5, 2) := by decide +kernel
theorem dX11_method_26 : decode cX11_method 26 = .ok (.iconst 5, 1) := by decide +kernel
theorem dX11_method_27 : decode cX11_method 27 = .ok (.if_icmp .gt 13, 3) := by decide +kernel
theorem dX11_method_30 : decode cX11_method 30 = .ok (.aload_n 0, 1) := by decide +kernel
theorem dX11_method_31 : decode cX11_method 31 = .ok (.iload_n 3, 1) := by decide +kernel
theorem dX11_method_32 : decode cX11_method 32 = .ok (.iload 4, 2) := by decide +kernel
theorem dX11_method_34 : decode cX11_method 34 = .ok (.invokevirtual 129, 3) := by decide +kernel
theorem dX11_method_37 : decode cX11_method 37 = .ok (.ifCond .ne 13, 3) := by decide +kernel
theorem dX11_method_40 : decode cX11_method 40 = .ok (.new 49, 3) := by decide +kernel
theorem dX11_method_43 : decode cX11_method 43 = .ok (.dup, 1) := by decide +kernel
theorem dX11_method_44 : decode cX11_method 44 = .ok (.ldc 133, 2) := by decide +kernel
theorem dX11_method_46 : decode cX11_method 46 = .ok (.invokespecial 53, 3) := by decide +kernel
theorem dX11_method_49 : decode cX11_method 49 = .ok (.athrow, 1) := by decide +kernel
theorem dX11_method_50 : decode cX11_method 50 = .ok (.aload 7, 2) := by decide +kernel
theorem dX11_method_52 : decode cX11_method 52 = .ok (.getfield 135, 3) := by decide +kernel
theorem dX11_method_55 : decode cX11_method 55 = .ok (.bipush 6, 2) := by decide +kernel
theorem dX11_method_57 : decode cX11_method 57 = .ok (.if_icmp .lt 13, 3) := by decide +kernel
theorem dX11_method_60 : decode cX11_method 60 = .ok (.new 66, 3) := by decide +kernel
theorem dX11_method_63 : decode cX11_method 63 = .ok (.dup, 1) := by decide +kernel
theorem dX11_method_64 : decode cX11_method 64 = .ok (.ldc 138, 2) := by decide +kernel
theorem dX11_method_66 : decode cX11_method 66 = .ok (.invokespecial 70, 3) := by decide +kernel
theorem dX11_method_69 : decode cX11_method 69 = .ok (.athrow, 1) := by decide +kernel
theorem dX11_method_70 : decode cX11_method 70 = .ok (.aload 7, 2) := by decide +kernel
theorem dX11_method_72 : decode cX11_method 72 = .ok (.new 140, 3) := by decide +kernel
theorem dX11_method_75 : decode cX11_method 75 = .ok (.dup, 1) := by decide +kernel
theorem dX11_method_76 : decode cX11_method 76 = .ok (.iload_n 2, 1) := by decide +kernel
theorem dX11_method_77 : decode cX11_method 77 = .ok (.iload_n 3, 1) := by decide +kernel
theorem dX11_method_78 : decode cX11_method 78 = .ok (.iload 4, 2) := by decide +kernel
theorem dX11_method_80 : decode cX11_method 80 = .ok (.iload 5, 2) := by decide +kernel
theorem dX11_method_82 : decode cX11_method 82 = .ok (.iload 6, 2) := by decide +kernel
theorem dX11_method_84 : decode cX11_method 84 = .ok (.invokespecial 142, 3) := by decide +kernel
theorem dX11_method_87 : decode cX11_method 87 = .ok (.invokevirtual 145, 3) := by decide +kernel
theorem dX11_method_90 : decode cX11_method 90 = .ok (.aload 7, 2) := by decide +kernel
theorem dX11_method_92 : decode cX11_method 92 = .ok (.getfield 135, 3) := by decide +kernel
theorem dX11_method_95 : decode cX11_method 95 = .ok (.ireturn, 1) := by decide +kernel
theorem dX11_make_0 : decode cX11_make 0 = .ok (.aload_n 0, 1) := by decide +kernel
theorem dX11_make_1 : decode cX11_make 1 = .ok (.iload_n 1, 1) := by decide +kernel
theorem dX11_make_2 : decode cX11_make 2 = .ok (.invokevirtual 90, 3) := by decide +kernel
theorem dX11_make_5 : decode cX11_make 5 = .ok (.astore_n 2, 1) := by decide +kernel
theorem dX11_make_6 : decode cX11_make 6 = .ok (.aload_n 2, 1) := by decide +kernel
theorem dX11_make_7 : decode cX11_make 7 = .ok (.ifnonnull 13, 3) := by decide +kernel
theorem dX11_make_10 : decode cX11_make 10 = .ok (.new 49, 3) := by decide +kernel
theorem dX11_make_13 : decode cX11_make 13 = .ok (.dup, 1) := by decide +kernel
theorem dX11_make_14 : decode cX11_make 14 = .ok (.ldc 149, 2) := by decide +kernel
theorem dX11_make_16 : decode cX11_make 16 = .ok (.invokespecial 53, 3) := by decide +kernel
theorem dX11_make_19 : decode cX11_make 19 = .ok (.athrow, 1) := by decide +kernel
theorem dX11_make_20 : decode cX11_make 20 = .ok (.aload_n 0, 1) := by decide +kernel
theorem dX11_make_21 : decode cX11_make 21 = .ok (.getfield 120, 3) := by decide +kernel
theorem dX11_make_24 : decode cX11_make 24 = .ok (.aload_n 0, 1) := by decide +kernel
theorem dX11_make_25 : decode cX11_make 25 = .ok (.getfield 37, 3) := by decide +kernel
theorem dX11_make_28 : decode cX11_make 28 = .ok (.arraylength, 1) := by decide +kernel
theorem dX11_make_29 : decode cX11_make 29 = .ok (.if_icmp .lt 13, 3) := by decide +kernel
theorem dX11_make_32 : decode cX11_make 32 = .ok (.new 66, 3) := by decide +kernel
theorem dX11_make_35 : decode cX11_make 35 = .ok (.dup, 1) := by decide +kernel
theorem dX11_make_36 : decode cX11_make 36 = .ok (.ldc 151, 2) := by decide +kernel
theorem dX11_make_38 : decode cX11_make 38 = .ok (.invokespecial 70, 3) := by decide +kernel
theorem dX11_make_41 : decode cX11_make 41 = .ok (.athrow, 1) := by decide +kernel
theorem dX11_make_42 : decode cX11_make 42 = .ok (.aload_n 0, 1) := by decide +kernel
theorem dX11_make_43 : decode cX11_make 43 = .ok (.getfield 37, 3) := by decide +kernel
theorem dX11_make_46 : decode cX11_make 46 = .ok (.aload_n 0, 1) := by decide +kernel
theorem dX11_make_47 : decode cX11_make 47 = .ok (.getfield 120, 3) := by decide +kernel
theorem dX11_make_50 : decode cX11_make 50 = .ok (.new 153, 3) := by decide +kernel
theorem dX11_make_53 : decode cX11_make 53 = .ok (.dup, 1) := by decide +kernel
theorem dX11_make_54 : decode cX11_make 54 = .ok (.aload_n 0, 1) := by decide +kernel
theorem dX11_make_55 : decode cX11_make 55 = .ok (.getfield 120, 3) := by decide +kernel
theorem dX11_make_58 : decode cX11_make 58 = .ok (.aload_n 2, 1) := by decide +kernel
theorem dX11_make_59 : decode cX11_make 59 = .ok (.aload_n 0, 1) := by decide +kernel
theorem dX11_make_60 : decode cX11_make 60 = .ok (.getfield 19, 3) := by decide +kernel
theorem dX11_make_63 : decode cX11_make 63 = .ok (.getfield 155, 3) := by decide +kernel
theorem dX11_make_66 : decode cX11_make 66 = .ok (.invokespecial 158, 3) := by decide +kernel
theorem dX11_make_69 : decode cX11_make 69 = .ok (.invokestatic 161, 3) := by decide +kernel
theorem dX11_make_72 : decode cX11_make 72 = .ok (.aastore, 1) := by decide +kernel
theorem dX11_make_73 : decode cX11_make 73 = .ok (.aload_n 0, 1) := by decide +kernel
theorem dX11_make_74 : decode cX11_make 74 = .ok (.dup, 1) := by decide +kernel
theorem dX11_make_75 : decode cX11_make 75 = .ok (.getfield 120, 3) := by decide +kernel
theorem dX11_make_78 : decode cX11_make 78 = .ok (.iconst 1, 1) := by decide +kernel
theorem dX11_make_79 : decode cX11_make 79 = .ok (.iadd, 1) := by decide +kernel
theorem dX11_make_80 : decode cX11_make 80 = .ok (.putfield 120, 3) := by decide +kernel
theorem dX11_make_83 : decode cX11_make 83 = .ok (.aload_n 0, 1) := by decide +kernel
theorem dX11_make_84 : decode cX11_make 84 = .ok (.getfield 120, 3) := by decide +kernel
theorem dX11_make_87 : decode cX11_make 87 = .ok (.iconst 1, 1) := by decide +kernel
theorem dX11_make_88 : decode cX11_make 88 = .ok (.isub, 1) := by decide +kernel
theorem dX11_make_89 : decode cX11_make 89 = .ok (.ireturn, 1) := by decide +kernel
theorem dX11_converter_0 : decode cX11_converter 0 = .ok (.iload_n 1, 1) := by decide +kernel
theorem dX11_converter_1 : decode cX11_converter 1 = .ok (.iconst 1, 1) := by decide +kernel
theorem dX11_converter_2 : decode cX11_converter 2 = .ok (.if_icmp .lt 8, 3) := by decide +kernel
theorem dX11_converter_5 : decode cX11_converter 5 = .ok (.iload_n 1, 1) := by decide +kernel
theorem dX11_converter_6 : decode cX11_converter 6 = .ok (.iconst 5, 1) := by decide +kernel
theorem dX11_converter_7 : decode cX11_converter 7 = .ok (.if_icmp .le 15, 3) := by decide +kernel
theorem dX11_converter_10 : decode cX11_converter 10 = .ok (.iload_n 1, 1) := by decide +kernel
theorem dX11_converter_11 : decode cX11_converter 11 = .ok (.bipush 8, 2) := by decide +kernel
theorem dX11_converter_13 : decode cX11_converter 13 = .ok (.if_icmp .lt 13, 3) := by decide +kernel
theorem dX11_converter_16 : decode cX11_converter 16 = .ok (.iload_n 1, 1) := by decide +kernel
theorem dX11_converter_17 : decode cX11_converter 17 = .ok (.bipush 13, 2) := by decide +kernel
theorem dX11_converter_19 : decode cX11_converter 19 = .ok (.if_icmp .ge 7, 3) := by decide +kernel
theorem dX11_converter_22 : decode cX11_converter 22 = .ok (.iconst 1, 1) := by decide +kernel
theorem dX11_converter_23 : decode cX11_converter 23 = .ok (.goto 4, 3) := by decide +kernel
theorem dX11_converter_26 : decode cX11_converter 26 = .ok (.iconst 0, 1) := by decide +kernel
theorem dX11_converter_27 : decode cX11_converter 27 = .ok (.istore 4, 2) := by decide +kernel
theorem dX11_converter_29 : decode cX11_converter 29 = .ok (.iload 4, 2) := by decide +kernel
theorem dX11_converter_31 : decode cX11_converter 31 = .ok (.ifCond .eq 18, 3) := by decide +kernel
theorem dX11_converter_34 : decode cX11_converter 34 = .ok (.iload_n 2, 1) := by decide +kernel
theorem dX11_converter_35 : decode cX11_converter 35 = .ok (.iconst 1, 1) := by decide +kernel
theorem dX11_converter_36 : decode cX11_converter 36 = .ok (.if_icmp .lt 13, 3) := by decide +kernel
theorem dX11_converter_39 : decode cX11_converter 39 = .ok (.iload_n 2, 1) := by decide +kernel
theorem dX11_converter_40 : decode cX11_converter 40 = .ok (.iconst 4, 1) := by decide +kernel
theorem dX11_converter_41 : decode cX11_converter 41 = .ok (.if_icmp .gt 8, 3) := by decide +kernel
theorem dX11_converter_44 : decode cX11_converter 44 = .ok (.iload_n 1, 1) := by decide +kernel
theorem dX11_converter_45 : decode cX11_converter 45 = .ok (.iload_n 2, 1) := by decide +kernel
theorem dX11_converter_46 : decode cX11_converter 46 = .ok (.if_icmp .ne 13, 3) := by decide +kernel
theorem dX11_converter_49 : decode cX11_converter 49 = .ok (.new 49, 3) := by decide +kernel
theorem dX11_converter_52 : decode cX11_converter 52 = .ok (.dup, 1) := by decide +kernel
theorem dX11_converter_53 : decode cX11_converter 53 = .ok (.ldc 165, 2) := by decide +kernel
theorem dX11_converter_55 : decode cX11_converter 55 = .ok (.invokespecial 53, 3) := by decide +kernel
theorem dX11_converter_58 : decode cX11_converter 58 = .ok (.athrow, 1) := by decide +kernel
theorem dX11_converter_59 : decode cX11_converter 59 = .ok (.aload_n 0, 1) := by decide +kernel
theorem dX11_converter_60 : decode cX11_converter 60 = .ok (.getfield 19, 3) := by decide +kernel
theorem dX11_converter_63 : decode cX11_converter 63 = .ok (.getfield 167, 3) := by decide +kernel
theorem dX11_converter_66 : decode cX11_converter 66 = .ok (.iload_n 1, 1) := by decide +kernel
theorem dX11_converter_67 : decode cX11_converter 67 = .ok (.iload_n 2, 1) := by decide +kernel
theorem dX11_converter_68 : decode cX11_converter 68 = .ok (.iload_n 3, 1) := by decide +kernel
theorem dX11_converter_69 : decode cX11_converter 69 = .ok (.invokevirtual 171, 3) := by decide +kernel
theorem dX11_converter_72 : decode cX11_converter 72 = .ok (.ireturn, 1) := by decide +kernel
theorem dX11_run_0 : decode cX11_run 0 = .ok (.iload_n 1, 1) := by decide +kernel
theorem dX11_run_1 : decode cX11_run 1 = .ok (.ifCond .lt 29, 3) := by decide +kernel
theorem dX11_run_4 : decode cX11_run 4 = .ok (.iload_n 1, 1) := by decide +kernel
theorem dX11_run_5 : decode cX11_run 5 = .ok (.aload_n 0, 1) := by decide +kernel
theorem dX11_run_6 : decode cX11_run 6 = .ok (.getfield 75, 3) := by decide +kernel
theorem dX11_run_9 : decode cX11_run 9 = .ok (.if_icmp .ge 21, 3) := by decide +kernel
theorem dX11_run_12 : decode cX11_run 12 = .ok (.iload_n 1, 1) := by decide +kernel
theorem dX11_run_13 : decode cX11_run 13 = .ok (.aload_n 0, 1) := by decide +kernel
theorem dX11_run_14 : decode cX11_run 14 = .ok (.getfield 25, 3) := by decide +kernel
theorem dX11_run_17 : decode cX11_run 17 = .ok (.arraylength, 1) := by decide +kernel
theorem dX11_run_18 : decode cX11_run 18 = .ok (.if_icmp .ge 12, 3) := by decide +kernel
theorem dX11_run_21 : decode cX11_run 21 = .ok (.aload_n 0, 1) := by decide +kernel
theorem dX11_run_22 : decode cX11_run 22 = .ok (.getfield 25, 3) := by decide +kernel
theorem dX11_run_25 : decode cX11_run 25 = .ok (.iload_n 1, 1) := by decide +kernel
theorem dX11_run_26 : decode cX11_run 26 = .ok (.aaload, 1) := by decide +kernel
theorem dX11_run_27 : decode cX11_run 27 = .ok (.goto 4, 3) := by decide +kernel
theorem dX11_run_30 : decode cX11_run 30 = .ok (.aconst_null, 1) := by decide +kernel
theorem dX11_run_31 : decode cX11_run 31 = .ok (.astore_n 3, 1) := by decide +kernel
theorem dX11_run_32 : decode cX11_run 32 = .ok (.iload_n 2, 1) := by decide +kernel
theorem dX11_run_33 : decode cX11_run 33 = .ok (.iconst (-1), 1) := by decide +kernel
theorem dX11_run_34 : decode cX11_run 34 = .ok (.if_icmp .ne 13, 3) := by decide +kernel
theorem dX11_run_37 : decode cX11_run 37 = .ok (.aload_n 0, 1) := by decide +kernel
theorem dX11_run_38 : decode cX11_run 38 = .ok (.getfield 19, 3) := by decide +kernel
theorem dX11_run_41 : decode cX11_run 41 = .ok (.getfield 155, 3) := by decide +kernel
theorem dX11_run_44 : decode cX11_run 44 = .ok (.goto 8, 3) := by decide +kernel
theorem dX11_run_47 : decode cX11_run 47 = .ok (.aload_n 0, 1) := by decide +kernel
theorem dX11_run_48 : decode cX11_run 48 = .ok (.iload_n 2, 1) := by decide +kernel
theorem dX11_run_49 : decode cX11_run 49 = .ok (.invokevirtual 177, 3) := by decide +kernel
theorem dX11_run_52 : decode cX11_run 52 = .ok (.astore 4, 2) := by decide +kernel
theorem dX11_run_54 : decode cX11_run 54 = .ok (.aload_n 3, 1) := by decide +kernel
theorem dX11_run_55 : decode cX11_run 55 = .ok (.ifnull 8, 3) := by decide +kernel
theorem dX11_run_58 : decode cX11_run 58 = .ok (.aload 4, 2) := by decide +kernel
theorem dX11_run_60 : decode cX11_run 60 = .ok (.ifnonnull 13, 3) := by decide +kernel
theorem dX11_run_63 : decode cX11_run 63 = .ok (.new 49, 3) := by decide +kernel
theorem dX11_run_66 : decode cX11_run 66 = .ok (.dup, 1) := by decide +kernel
theorem dX11_run_67 : decode cX11_run 67 = .ok (.ldc 181, 2) := by decide +kernel
theorem dX11_run_69 : decode cX11_run 69 = .ok (.invokespecial 53, 3) := by decide +kernel
theorem dX11_run_72 : decode cX11_run 72 = .ok (.athrow, 1) := by decide +kernel
theorem dX11_run_73 : decode cX11_run 73 = .ok (.aload_n 0, 1) := by decide +kernel
theorem dX11_run_74 : decode cX11_run 74 = .ok (.getfield 19, 3) := by decide +kernel
theorem dX11_run_77 : decode cX11_run 77 = .ok (.aload 4, 2) := by decide +kernel
theorem dX11_run_79 : decode cX11_run 79 = .ok (.invokevirtual 183, 3) := by decide +kernel
theorem dX11_run_82 : decode cX11_run 82 = .ok (.aload_n 0, 1) := by decide +kernel
theorem dX11_run_83 : decode cX11_run 83 = .ok (.getfield 19, 3) := by decide +kernel
theorem dX11_run_86 : decode cX11_run 86 = .ok (.aload_n 3, 1) := by decide +kernel
theorem dX11_run_87 : decode cX11_run 87 = .ok (.iconst 0, 1) := by decide +kernel
theorem dX11_run_88 : decode cX11_run 88 = .ok (.invokevirtual 187, 3) := by decide +kernel
theorem dX11_run_91 : decode cX11_run 91 = .ok (.astore 5, 2) := by decide +kernel
theorem dX11_run_93 : decode cX11_run 93 = .ok (.aload_n 0, 1) := by decide +kernel
theorem dX11_run_94 : decode cX11_run 94 = .ok (.aload 5, 2) := by decide +kernel
theorem dX11_run_96 : decode cX11_run 96 = .ok (.ifnonnull 13, 3) := by decide +kernel
theorem dX11_run_99 : decode cX11_run 99 = .ok (.aload_n 0, 1) := by decide +kernel
theorem dX11_run_100 : decode cX11_run 100 = .ok (.getfield 19, 3) := by decide +kernel
theorem dX11_run_103 : decode cX11_run 103 = .ok (.getfield 155, 3) := by decide +kernel
theorem dX11_run_106 : decode cX11_run 106 = .ok (.goto 5, 3) := by decide +kernel
theorem dX11_run_109 : decode cX11_run 109 = .ok (.aload 5, 2) := by decide +kernel
theorem dX11_run_111 : decode cX11_run 111 = .ok (.putfield 45, 3) := by decide +kernel
theorem dX11_run_114 : decode cX11_run 114 = .ok (.aload_n 0, 1) := by decide +kernel
theorem dX11_run_115 : decode cX11_run 115 = .ok (.getfield 19, 3) := by decide +kernel
theorem dX11_run_118 : decode cX11_run 118 = .ok (.getfield 191, 3) := by decide +kernel
theorem dX11_run_121 : decode cX11_run 121 = .ok (.ireturn, 1) := by decide +kernel
theorem dX11_keep_0 : decode cX11_keep 0 = .ok (.iload_n 1, 1) := by decide +kernel
theorem dX11_keep_1 : decode cX11_keep 1 = .ok (.invokestatic 104, 3) := by decide +kernel
theorem dX11_keep_4 : decode cX11_keep 4 = .ok (.ifCond .ne 13, 3) := by decide +kernel
theorem dX11_keep_7 : decode cX11_keep 7 = .ok (.new 49, 3) := by decide +kernel
theorem dX11_keep_10 : decode cX11_keep 10 = .ok (.dup, 1) := by decide +kernel
theorem dX11_keep_11 : decode cX11_keep 11 = .ok (.ldc 194, 2) := by decide +kernel
theorem dX11_keep_13 : decode cX11_keep 13 = .ok (.invokespecial 53, 3) := by decide +kernel
theorem dX11_keep_16 : decode cX11_keep 16 = .ok (.athrow, 1) := by decide +kernel
theorem dX11_keep_17 : decode cX11_keep 17 = .ok (.aload_n 0, 1) := by decide +kernel
theorem dX11_keep_18 : decode cX11_keep 18 = .ok (.getfield 19, 3) := by decide +kernel
theorem dX11_keep_21 : decode cX11_keep 21 = .ok (.iload_n 1, 1) := by decide +kernel
theorem dX11_keep_22 : decode cX11_keep 22 = .ok (.aload_n 0, 1) := by decide +kernel
theorem dX11_keep_23 : decode cX11_keep 23 = .ok (.getfield 45, 3) := by decide +kernel
theorem dX11_keep_26 : decode cX11_keep 26 = .ok (.invokevirtual 196, 3) := by decide +kernel
theorem dX11_keep_29 : decode cX11_keep 29 = .ok (.ifCond .ne 13, 3) := by decide +kernel
theorem dX11_keep_32 : decode cX11_keep 32 = .ok (.new 66, 3) := by decide +kernel
theorem dX11_keep_35 : decode cX11_keep 35 = .ok (.dup, 1) := by decide +kernel
theorem dX11_keep_36 : decode cX11_keep 36 = .ok (.ldc 200, 2) := by decide +kernel
theorem dX11_keep_38 : decode cX11_keep 38 = .ok (.invokespecial 70, 3) := by decide +kernel
theorem dX11_keep_41 : decode cX11_keep 41 = .ok (.athrow, 1) := by decide +kernel
theorem dX11_keep_42 : decode cX11_keep 42 = .ok (.aload_n 0, 1) := by decide +kernel
theorem dX11_keep_43 : decode cX11_keep 43 = .ok (.getfield 45, 3) := by decide +kernel
theorem dX11_keep_46 : decode cX11_keep 46 = .ok (.getfield 202, 3) := by decide +kernel
theorem dX11_keep_49 : decode cX11_keep 49 = .ok (.ireturn, 1) := by decide +kernel
theorem dX11_result_0 : decode cX11_result 0 = .ok (.iload_n 1, 1) := by decide +kernel
theorem dX11_result_1 : decode cX11_result 1 = .ok (.tableswitch 71 0 2 #[27, 35, 43], 27) := by decide +kernel
theorem dX11_result_28 : decode cX11_result 28 = .ok (.aload_n 0, 1) := by decide +kernel
theorem dX11_result_29 : decode cX11_result 29 = .ok (.getfield 45, 3) := by decide +kernel
theorem dX11_result_32 : decode cX11_result 32 = .ok (.getfield 202, 3) := by decide +kernel
theorem dX11_result_35 : decode cX11_result 35 = .ok (.ireturn, 1) := by decide +kernel
theorem dX11_result_36 : decode cX11_result 36 = .ok (.aload_n 0, 1) := by decide +kernel
theorem dX11_result_37 : decode cX11_result 37 = .ok (.getfield 45, 3) := by decide +kernel
theorem dX11_result_40 : decode cX11_result 40 = .ok (.getfield 205, 3) := by decide +kernel
theorem dX11_result_43 : decode cX11_result 43 = .ok (.ireturn, 1) := by decide +kernel
theorem dX11_result_44 : decode cX11_result 44 = .ok (.aload_n 0, 1) := by decide +kernel
theorem dX11_result_45 : decode cX11_result 45 = .ok (.getfield 45, 3) := by decide +kernel
theorem dX11_result_48 : decode cX11_result 48 = .ok (.getfield 202, 3) := by decide +kernel
theorem dX11_result_51 : decode cX11_result 51 = .ok (.iconst 3, 1) := by decide +kernel
theorem dX11_result_52 : decode cX11_result 52 = .ok (.if_icmp .ne 18, 3) := by decide +kernel
theorem dX11_result_55 : decode cX11_result 55 = .ok (.ldc2_w 208, 3) := by decide +kernel
theorem dX11_result_58 : decode cX11_result 58 = .ok (.aload_n 0, 1) := by decide +kernel
theorem dX11_result_59 : decode cX11_result 59 = .ok (.getfield 45, 3) := by decide +kernel
theorem dX11_result_62 : decode cX11_result 62 = .ok (.getfield 210, 3) := by decide +kernel
theorem dX11_result_65 : decode cX11_result 65 = .ok (.dmul, 1) := by decide +kernel
theorem dX11_result_66 : decode cX11_result 66 = .ok (.d2i, 1) := by decide +kernel
theorem dX11_result_67 : decode cX11_result 67 = .ok (.goto 4, 3) := by decide +kernel
theorem dX11_result_70 : decode cX11_result 70 = .ok (.iconst 0, 1) := by decide +kernel
theorem dX11_result_71 : decode cX11_result 71 = .ok (.ireturn, 1) := by decide +kernel
theorem dX11_result_72 : decode cX11_result 72 = .ok (.iconst (-1), 1) := by decide +kernel
theorem dX11_result_73 : decode cX11_result 73 = .ok (.ireturn, 1) := by decide +kernel
theorem dX11_text_0 : decode cX11_text 0 = .ok (.iload_n 1, 1) := by decide +kernel
theorem dX11_text_1 : decode cX11_text 1 = .ok (.ifCond .lt 31, 3) := by decide +kernel
theorem dX11_text_4 : decode cX11_text 4 = .ok (.iload_n 1, 1) := by decide +kernel
theorem dX11_text_5 : decode cX11_text 5 = .ok (.aload_n 0, 1) := by decide +kernel
theorem dX11_text_6 : decode cX11_text 6 = .ok (.getfield 45, 3) := by decide +kernel
theorem dX11_text_9 : decode cX11_text 9 = .ok (.getfield 214, 3) := by decide +kernel
theorem dX11_text_12 : decode cX11_text 12 = .ok (.invokevirtual 218, 3) := by decide +kernel
theorem dX11_text_15 : decode cX11_text 15 = .ok (.if_icmp .ge 17, 3) := by decide +kernel
theorem dX11_text_18 : decode cX11_text 18 = .ok (.aload_n 0, 1) := by decide +kernel
theorem dX11_text_19 : decode cX11_text 19 = .ok (.getfield 45, 3) := by decide +kernel
theorem dX11_text_22 : decode cX11_text 22 = .ok (.getfield 214, 3) := by decide +kernel
theorem dX11_text_25 : decode cX11_text 25 = .ok (.iload_n 1, 1) := by decide +kernel
theorem dX11_text_26 : decode cX11_text 26 = .ok (.invokevirtual 223, 3) := by decide +kernel
theorem dX11_text_29 : decode cX11_text 29 = .ok (.goto 4, 3) := by decide +kernel
theorem dX11_text_32 : decode cX11_text 32 = .ok (.iconst (-1), 1) := by decide +kernel
theorem dX11_text_33 : decode cX11_text 33 = .ok (.ireturn, 1) := by decide +kernel
theorem dX11_put_0 : decode cX11_put 0 = .ok (.aload_n 0, 1) := by decide +kernel
theorem dX11_put_1 : decode cX11_put 1 = .ok (.iload_n 1, 1) := by decide +kernel
theorem dX11_put_2 : decode cX11_put 2 = .ok (.invokevirtual 177, 3) := by decide +kernel
theorem dX11_put_5 : decode cX11_put 5 = .ok (.astore_n 3, 1) := by decide +kernel
theorem dX11_put_6 : decode cX11_put 6 = .ok (.aload_n 3, 1) := by decide +kernel
theorem dX11_put_7 : decode cX11_put 7 = .ok (.ifnonnull 13, 3) := by decide +kernel
theorem dX11_put_10 : decode cX11_put 10 = .ok (.new 49, 3) := by decide +kernel
theorem dX11_put_13 : decode cX11_put 13 = .ok (.dup, 1) := by decide +kernel
theorem dX11_put_14 : decode cX11_put 14 = .ok (.ldc 227, 2) := by decide +kernel
theorem dX11_put_16 : decode cX11_put 16 = .ok (.invokespecial 53, 3) := by decide +kernel
theorem dX11_put_19 : decode cX11_put 19 = .ok (.athrow, 1) := by decide +kernel
theorem dX11_put_20 : decode cX11_put 20 = .ok (.aload_n 0, 1) := by decide +kernel
theorem dX11_put_21 : decode cX11_put 21 = .ok (.getfield 19, 3) := by decide +kernel
theorem dX11_put_24 : decode cX11_put 24 = .ok (.aload_n 0, 1) := by decide +kernel
theorem dX11_put_25 : decode cX11_put 25 = .ok (.getfield 19, 3) := by decide +kernel
theorem dX11_put_28 : decode cX11_put 28 = .ok (.getfield 155, 3) := by decide +kernel
theorem dX11_put_31 : decode cX11_put 31 = .ok (.invokevirtual 183, 3) := by decide +kernel
theorem dX11_put_34 : decode cX11_put 34 = .ok (.aload_n 0, 1) := by decide +kernel
theorem dX11_put_35 : decode cX11_put 35 = .ok (.getfield 19, 3) := by decide +kernel
theorem dX11_put_38 : decode cX11_put 38 = .ok (.aload_n 3, 1) := by decide +kernel
theorem dX11_put_39 : decode cX11_put 39 = .ok (.iload_n 2, 1) := by decide +kernel
theorem dX11_put_40 : decode cX11_put 40 = .ok (.aload_n 0, 1) := by decide +kernel
theorem dX11_put_41 : decode cX11_put 41 = .ok (.getfield 45, 3) := by decide +kernel
theorem dX11_put_44 : decode cX11_put 44 = .ok (.invokevirtual 229, 3) := by decide +kernel
theorem dX11_put_47 : decode cX11_put 47 = .ok (.pop, 1) := by decide +kernel
theorem dX11_put_48 : decode cX11_put 48 = .ok (.aload_n 0, 1) := by decide +kernel
theorem dX11_put_49 : decode cX11_put 49 = .ok (.getfield 19, 3) := by decide +kernel
theorem dX11_put_52 : decode cX11_put 52 = .ok (.getfield 191, 3) := by decide +kernel
theorem dX11_put_55 : decode cX11_put 55 = .ok (.ireturn, 1) := by decide +kernel
theorem dX11_about_0 : decode cX11_about 0 = .ok (.iload_n 1, 1) := by decide +kernel
theorem dX11_about_1 : decode cX11_about 1 = .ok (.tableswitch 69 0 4 #[35, 46, 51, 56, 61], 35) := by decide +kernel
theorem dX11_about_36 : decode cX11_about 36 = .ok (.aload_n 0, 1) := by decide +kernel
theorem dX11_about_37 : decode cX11_about 37 = .ok (.getfield 10, 3) := by decide +kernel
theorem dX11_about_40 : decode cX11_about 40 = .ok (.getfield 56, 3) := by decide +kernel
theorem dX11_about_43 : decode cX11_about 43 = .ok (.getfield 60, 3) := by decide +kernel
theorem dX11_about_46 : decode cX11_about 46 = .ok (.ireturn, 1) := by decide +kernel
theorem dX11_about_47 : decode cX11_about 47 = .ok (.aload_n 0, 1) := by decide +kernel
theorem dX11_about_48 : decode cX11_about 48 = .ok (.getfield 75, 3) := by decide +kernel
theorem dX11_about_51 : decode cX11_about 51 = .ok (.ireturn, 1) := by decide +kernel
theorem dX11_about_52 : decode cX11_about 52 = .ok (.aload_n 0, 1) := by decide +kernel
theorem dX11_about_53 : decode cX11_about 53 = .ok (.getfield 96, 3) := by decide +kernel
theorem dX11_about_56 : decode cX11_about 56 = .ok (.ireturn, 1) := by decide +kernel
theorem dX11_about_57 : decode cX11_about 57 = .ok (.aload_n 0, 1) := by decide +kernel
theorem dX11_about_58 : decode cX11_about 58 = .ok (.getfield 120, 3) := by decide +kernel
theorem dX11_about_61 : decode cX11_about 61 = .ok (.ireturn, 1) := by decide +kernel
theorem dX11_about_62 : decode cX11_about 62 = .ok (.aload_n 0, 1) := by decide +kernel
theorem dX11_about_63 : decode cX11_about 63 = .ok (.getfield 19, 3) := by decide +kernel
theorem dX11_about_66 : decode cX11_about 66 = .ok (.getfield 233, 3) := by decide +kernel
theorem dX11_about_69 : decode cX11_about 69 = .ok (.ireturn, 1) := by decide +kernel
theorem dX11_about_70 : decode cX11_about 70 = .ok (.iconst (-1), 1) := by decide +kernel
theorem dX11_about_71 : decode cX11_about 71 = .ok (.ireturn, 1) := by decide +kernel
theorem dX11_familyAt_0 : decode cX11_familyAt 0 = .ok (.iload_n 1, 1) := by decide +kernel
theorem dX11_familyAt_1 : decode cX11_familyAt 1 = .ok (.ifCond .lt 29, 3) := by decide +kernel
theorem dX11_familyAt_4 : decode cX11_familyAt 4 = .ok (.iload_n 1, 1) := by decide +kernel
theorem dX11_familyAt_5 : decode cX11_familyAt 5 = .ok (.aload_n 0, 1) := by decide +kernel
theorem dX11_familyAt_6 : decode cX11_familyAt 6 = .ok (.getfield 96, 3) := by decide +kernel
theorem dX11_familyAt_9 : decode cX11_familyAt 9 = .ok (.if_icmp .ge 21, 3) := by decide +kernel
theorem dX11_familyAt_12 : decode cX11_familyAt 12 = .ok (.iload_n 1, 1) := by decide +kernel
theorem dX11_familyAt_13 : decode cX11_familyAt 13 = .ok (.aload_n 0, 1) := by decide +kernel
theorem dX11_familyAt_14 : decode cX11_familyAt 14 = .ok (.getfield 31, 3) := by decide +kernel
theorem dX11_familyAt_17 : decode cX11_familyAt 17 = .ok (.arraylength, 1) := by decide +kernel
theorem dX11_familyAt_18 : decode cX11_familyAt 18 = .ok (.if_icmp .ge 12, 3) := by decide +kernel
theorem dX11_familyAt_21 : decode cX11_familyAt 21 = .ok (.aload_n 0, 1) := by decide +kernel
theorem dX11_familyAt_22 : decode cX11_familyAt 22 = .ok (.getfield 31, 3) := by decide +kernel
theorem dX11_familyAt_25 : decode cX11_familyAt 25 = .ok (.iload_n 1, 1) := by decide +kernel
theorem dX11_familyAt_26 : decode cX11_familyAt 26 = .ok (.aaload, 1) := by decide +kernel
theorem dX11_familyAt_27 : decode cX11_familyAt 27 = .ok (.goto 4, 3) := by decide +kernel
theorem dX11_familyAt_30 : decode cX11_familyAt 30 = .ok (.aconst_null, 1) := by decide +kernel
theorem dX11_familyAt_31 : decode cX11_familyAt 31 = .ok (.areturn, 1) := by decide +kernel
theorem dX11_objectAt_0 : decode cX11_objectAt 0 = .ok (.iload_n 1, 1) := by decide +kernel
theorem dX11_objectAt_1 : decode cX11_objectAt 1 = .ok (.ifCond .lt 29, 3) := by decide +kernel
theorem dX11_objectAt_4 : decode cX11_objectAt 4 = .ok (.iload_n 1, 1) := by decide +kernel
theorem dX11_objectAt_5 : decode cX11_objectAt 5 = .ok (.aload_n 0, 1) := by decide +kernel
theorem dX11_objectAt_6 : decode cX11_objectAt 6 = .ok (.getfield 120, 3) := by decide +kernel
theorem dX11_objectAt_9 : decode cX11_objectAt 9 = .ok (.if_icmp .ge 21, 3) := by decide +kernel
theorem dX11_objectAt_12 : decode cX11_objectAt 12 = .ok (.iload_n 1, 1) := by decide +kernel
theorem dX11_objectAt_13 : decode cX11_objectAt 13 = .ok (.aload_n 0, 1) := by decide +kernel
theorem dX11_objectAt_14 : decode cX11_objectAt 14 = .ok (.getfield 37, 3) := by decide +kernel
theorem dX11_objectAt_17 : decode cX11_objectAt 17 = .ok (.arraylength, 1) := by decide +kernel
theorem dX11_objectAt_18 : decode cX11_objectAt 18 = .ok (.if_icmp .ge 12, 3) := by decide +kernel
theorem dX11_objectAt_21 : decode cX11_objectAt 21 = .ok (.aload_n 0, 1) := by decide +kernel
theorem dX11_objectAt_22 : decode cX11_objectAt 22 = .ok (.getfield 37, 3) := by decide +kernel
theorem dX11_objectAt_25 : decode cX11_objectAt 25 = .ok (.iload_n 1, 1) := by decide +kernel
theorem dX11_objectAt_26 : decode cX11_objectAt 26 = .ok (.aaload, 1) := by decide +kernel
theorem dX11_objectAt_27 : decode cX11_objectAt 27 = .ok (.goto 4, 3) := by decide +kernel
theorem dX11_objectAt_30 : decode cX11_objectAt 30 = .ok (.aconst_null, 1) := by decide +kernel
theorem dX11_objectAt_31 : decode cX11_objectAt 31 = .ok (.areturn, 1) := by decide +kernel
theorem dX11_isName_0 : decode cX11_isName 0 = .ok (.iload_n 0, 1) := by decide +kernel
theorem dX11_isName_1 : decode cX11_isName 1 = .ok (.iconst 1, 1) := by decide +kernel
theorem dX11_isName_2 : decode cX11_isName 2 = .ok (.if_icmp .lt 13, 3) := by decide +kernel
theorem dX11_isName_5 : decode cX11_isName 5 = .ok (.iload_n 0, 1) := by decide +kernel
theorem dX11_isName_6 : decode cX11_isName 6 = .ok (.ldc 236, 2) := by decide +kernel
theorem dX11_isName_8 : decode cX11_isName 8 = .ok (.if_icmp .gt 7, 3) := by decide +kernel
theorem dX11_isName_11 : decode cX11_isName 11 = .ok (.iconst 1, 1) := by decide +kernel
theorem dX11_isName_12 : decode cX11_isName 12 = .ok (.goto 4, 3) := by decide +kernel
theorem dX11_isName_15 : decode cX11_isName 15 = .ok (.iconst 0, 1) := by decide +kernel
theorem dX11_isName_16 : decode cX11_isName 16 = .ok (.ireturn, 1) := by decide +kernel
theorem dX11_isType_0 : decode cX11_isType 0 = .ok (.iload_n 1, 1) := by decide +kernel
theorem dX11_isType_1 : decode cX11_isType 1 = .ok (.iconst 1, 1) := by decide +kernel
theorem dX11_isType_2 : decode cX11_isType 2 = .ok (.if_icmp .lt 8, 3) := by decide +kernel
theorem dX11_isType_5 : decode cX11_isType 5 = .ok (.iload_n 1, 1) := by decide +kernel
theorem dX11_isType_6 : decode cX11_isType 6 = .ok (.iconst 5, 1) := by decide +kernel
theorem dX11_isType_7 : decode cX11_isType 7 = .ok (.if_icmp .le 20, 3) := by decide +kernel
theorem dX11_isType_10 : decode cX11_isType 10 = .ok (.iload_n 1, 1) := by decide +kernel
theorem dX11_isType_11 : decode cX11_isType 11 = .ok (.bipush 8, 2) := by decide +kernel
theorem dX11_isType_13 : decode cX11_isType 13 = .ok (.if_icmp .lt 18, 3) := by decide +kernel
theorem dX11_isType_16 : decode cX11_isType 16 = .ok (.iload_n 1, 1) := by decide +kernel
theorem dX11_isType_17 : decode cX11_isType 17 = .ok (.bipush 8, 2) := by decide +kernel
theorem dX11_isType_19 : decode cX11_isType 19 = .ok (.aload_n 0, 1) := by decide +kernel
theorem dX11_isType_20 : decode cX11_isType 20 = .ok (.getfield 96, 3) := by decide +kernel
theorem dX11_isType_23 : decode cX11_isType 23 = .ok (.iadd, 1) := by decide +kernel
theorem dX11_isType_24 : decode cX11_isType 24 = .ok (.if_icmp .ge 7, 3) := by decide +kernel
theorem dX11_isType_27 : decode cX11_isType 27 = .ok (.iconst 1, 1) := by decide +kernel
theorem dX11_isType_28 : decode cX11_isType 28 = .ok (.goto 4, 3) := by decide +kernel
theorem dX11_isType_31 : decode cX11_isType 31 = .ok (.iconst 0, 1) := by decide +kernel
theorem dX11_isType_32 : decode cX11_isType 32 = .ok (.ireturn, 1) := by decide +kernel
theorem dX11_areParameters_0 : decode cX11_areParameters 0 = .ok (.iload_n 1, 1) := by decide +kernel
theorem dX11_areParameters_1 : decode cX11_areParameters 1 = .ok (.ifCond .ne 13, 3) := by decide +kernel
theorem dX11_areParameters_4 : decode cX11_areParameters 4 = .ok (.iload_n 2, 1) := by decide +kernel
theorem dX11_areParameters_5 : decode cX11_areParameters 5 = .ok (.ifCond .ne 7, 3) := by decide +kernel
theorem dX11_areParameters_8 : decode cX11_areParameters 8 = .ok (.iconst 1, 1) := by decide +kernel
theorem dX11_areParameters_9 : decode cX11_areParameters 9 = .ok (.goto 4, 3) := by decide +kernel
theorem dX11_areParameters_12 : decode cX11_areParameters 12 = .ok (.iconst 0, 1) := by decide +kernel
theorem dX11_areParameters_13 : decode cX11_areParameters 13 = .ok (.ireturn, 1) := by decide +kernel
theorem dX11_areParameters_14 : decode cX11_areParameters 14 = .ok (.aload_n 0, 1) := by decide +kernel
theorem dX11_areParameters_15 : decode cX11_areParameters 15 = .ok (.iload_n 1, 1) := by decide +kernel
theorem dX11_areParameters_16 : decode cX11_areParameters 16 = .ok (.invokevirtual 108, 3) := by decide +kernel
theorem dX11_areParameters_19 : decode cX11_areParameters 19 = .ok (.ifCond .eq 19, 3) := by decide +kernel
theorem dX11_areParameters_22 : decode cX11_areParameters 22 = .ok (.iload_n 2, 1) := by decide +kernel
theorem dX11_areParameters_23 : decode cX11_areParameters 23 = .ok (.ifCond .eq 11, 3) := by decide +kernel
theorem dX11_areParameters_26 : decode cX11_areParameters 26 = .ok (.aload_n 0, 1) := by decide +kernel
theorem dX11_areParameters_27 : decode cX11_areParameters 27 = .ok (.iload_n 2, 1) := by decide +kernel
theorem dX11_areParameters_28 : decode cX11_areParameters 28 = .ok (.invokevirtual 108, 3) := by decide +kernel
theorem dX11_areParameters_31 : decode cX11_areParameters 31 = .ok (.ifCond .eq 7, 3) := by decide +kernel
theorem dX11_areParameters_34 : decode cX11_areParameters 34 = .ok (.iconst 1, 1) := by decide +kernel
theorem dX11_areParameters_35 : decode cX11_areParameters 35 = .ok (.goto 4, 3) := by decide +kernel
theorem dX11_areParameters_38 : decode cX11_areParameters 38 = .ok (.iconst 0, 1) := by decide +kernel
theorem dX11_areParameters_39 : decode cX11_areParameters 39 = .ok (.ireturn, 1) := by decide +kernel
theorem dJ5_init_d00df_0 : decode cJ5_init_d00df 0 = .ok (.aload_n 0, 1) := by decide +kernel
theorem dJ5_init_d00df_1 : decode cJ5_init_d00df 1 = .ok (.invokespecial 3, 3) := by decide +kernel
theorem dJ5_init_d00df_4 : decode cJ5_init_d00df 4 = .ok (.getstatic 18, 3) := by decide +kernel
theorem dJ5_init_d00df_7 : decode cJ5_init_d00df 7 = .ok (.ifCond .eq 18, 3) := by decide +kernel
theorem dJ5_init_d00df_10 : decode cJ5_init_d00df 10 = .ok (.aload_n 0, 1) := by decide +kernel
theorem dJ5_init_d00df_11 : decode cJ5_init_d00df 11 = .ok (.iload_n 1, 1) := by decide +kernel
theorem dJ5_init_d00df_12 : decode cJ5_init_d00df 12 = .ok (.newarray .byte, 2) := by decide +kernel
theorem dJ5_init_d00df_14 : decode cJ5_init_d00df 14 = .ok (.putfield 15, 3) := by decide +kernel
theorem dJ5_init_d00df_17 : decode cJ5_init_d00df 17 = .ok (.aload_n 0, 1) := by decide +kernel
theorem dJ5_init_d00df_18 : decode cJ5_init_d00df 18 = .ok (.iconst 0, 1) := by decide +kernel
theorem dJ5_init_d00df_19 : decode cJ5_init_d00df 19 = .ok (.putfield 22, 3) := by decide +kernel
theorem dJ5_init_d00df_22 : decode cJ5_init_d00df 22 = .ok (.goto 16, 3) := by decide +kernel
theorem dJ5_init_d00df_25 : decode cJ5_init_d00df 25 = .ok (.aload_n 0, 1) := by decide +kernel
theorem dJ5_init_d00df_26 : decode cJ5_init_d00df 26 = .ok (.iload_n 1, 1) := by decide +kernel
theorem dJ5_init_d00df_27 : decode cJ5_init_d00df 27 = .ok (.invokestatic 26, 3) := by decide +kernel
theorem dJ5_init_d00df_30 : decode cJ5_init_d00df 30 = .ok (.putfield 15, 3) := by decide +kernel
theorem dJ5_init_d00df_33 : decode cJ5_init_d00df 33 = .ok (.aload_n 0, 1) := by decide +kernel
theorem dJ5_init_d00df_34 : decode cJ5_init_d00df 34 = .ok (.iconst 1, 1) := by decide +kernel
theorem dJ5_init_d00df_35 : decode cJ5_init_d00df 35 = .ok (.putfield 22, 3) := by decide +kernel
theorem dJ5_init_d00df_38 : decode cJ5_init_d00df 38 = .ok (.return_, 1) := by decide +kernel
theorem dJ5_length_8abf5_0 : decode cJ5_length_8abf5 0 = .ok (.aload_n 0, 1) := by decide +kernel
theorem dJ5_length_8abf5_1 : decode cJ5_length_8abf5 1 = .ok (.getfield 79, 3) := by decide +kernel
theorem dJ5_length_8abf5_4 : decode cJ5_length_8abf5 4 = .ok (.ireturn, 1) := by decide +kernel
theorem dJ5_ensureCapacityInternal_d00df_0 : decode cJ5_ensureCapacityInternal_d00df 0 = .ok (.aload_n 0, 1) := by decide +kernel
theorem dJ5_ensureCapacityInternal_d00df_1 : decode cJ5_ensureCapacityInternal_d00df 1 = .ok (.getfield 15, 3) := by decide +kernel
theorem dJ5_ensureCapacityInternal_d00df_4 : decode cJ5_ensureCapacityInternal_d00df 4 = .ok (.arraylength, 1) := by decide +kernel
theorem dJ5_ensureCapacityInternal_d00df_5 : decode cJ5_ensureCapacityInternal_d00df 5 = .ok (.aload_n 0, 1) := by decide +kernel
theorem dJ5_ensureCapacityInternal_d00df_6 : decode cJ5_ensureCapacityInternal_d00df 6 = .ok (.getfield 22, 3) := by decide +kernel
theorem dJ5_ensureCapacityInternal_d00df_9 : decode cJ5_ensureCapacityInternal_d00df 9 = .ok (.ishr, 1) := by decide +kernel
theorem dJ5_ensureCapacityInternal_d00df_10 : decode cJ5_ensureCapacityInternal_d00df 10 = .ok (.istore_n 2, 1) := by decide +kernel
theorem dJ5_ensureCapacityInternal_d00df_11 : decode cJ5_ensureCapacityInternal_d00df 11 = .ok (.iload_n 1, 1) := by decide +kernel
theorem dJ5_ensureCapacityInternal_d00df_12 : decode cJ5_ensureCapacityInternal_d00df 12 = .ok (.iload_n 2, 1) := by decide +kernel
theorem dJ5_ensureCapacityInternal_d00df_13 : decode cJ5_ensureCapacityInternal_d00df 13 = .ok (.isub, 1) := by decide +kernel
theorem dJ5_ensureCapacityInternal_d00df_14 : decode cJ5_ensureCapacityInternal_d00df 14 = .ok (.ifCond .le 24, 3) := by decide +kernel
theorem dJ5_ensureCapacityInternal_d00df_17 : decode cJ5_ensureCapacityInternal_d00df 17 = .ok (.aload_n 0, 1) := by decide +kernel
theorem dJ5_ensureCapacityInternal_d00df_18 : decode cJ5_ensureCapacityInternal_d00df 18 = .ok (.aload_n 0, 1) := by decide +kernel
theorem dJ5_ensureCapacityInternal_d00df_19 : decode cJ5_ensureCapacityInternal_d00df 19 = .ok (.getfield 15, 3) := by decide +kernel
theorem dJ5_ensureCapacityInternal_d00df_22 : decode cJ5_ensureCapacityInternal_d00df 22 = .ok (.aload_n 0, 1) := by decide +kernel
theorem dJ5_ensureCapacityInternal_d00df_23 : decode cJ5_ensureCapacityInternal_d00df 23 = .ok (.iload_n 1, 1) := by decide +kernel
theorem dJ5_ensureCapacityInternal_d00df_24 : decode cJ5_ensureCapacityInternal_d00df 24 = .ok (.invokevirtual 104, 3) := by decide +kernel
theorem dJ5_ensureCapacityInternal_d00df_27 : decode cJ5_ensureCapacityInternal_d00df 27 = .ok (.aload_n 0, 1) := by decide +kernel
theorem dJ5_ensureCapacityInternal_d00df_28 : decode cJ5_ensureCapacityInternal_d00df 28 = .ok (.getfield 22, 3) := by decide +kernel
theorem dJ5_ensureCapacityInternal_d00df_31 : decode cJ5_ensureCapacityInternal_d00df 31 = .ok (.ishl, 1) := by decide +kernel
theorem dJ5_ensureCapacityInternal_d00df_32 : decode cJ5_ensureCapacityInternal_d00df 32 = .ok (.invokestatic 108, 3) := by decide +kernel
theorem dJ5_ensureCapacityInternal_d00df_35 : decode cJ5_ensureCapacityInternal_d00df 35 = .ok (.putfield 15, 3) := by decide +kernel
theorem dJ5_ensureCapacityInternal_d00df_38 : decode cJ5_ensureCapacityInternal_d00df 38 = .ok (.return_, 1) := by decide +kernel
theorem dJ5_newCapacity_0f7a4_0 : decode cJ5_newCapacity_0f7a4 0 = .ok (.aload_n 0, 1) := by decide +kernel
theorem dJ5_newCapacity_0f7a4_1 : decode cJ5_newCapacity_0f7a4 1 = .ok (.getfield 15, 3) := by decide +kernel
theorem dJ5_newCapacity_0f7a4_4 : decode cJ5_newCapacity_0f7a4 4 = .ok (.arraylength, 1) := by decide +kernel
theorem dJ5_newCapacity_0f7a4_5 : decode cJ5_newCapacity_0f7a4 5 = .ok (.istore_n 2, 1) := by decide +kernel
theorem dJ5_newCapacity_0f7a4_6 : decode cJ5_newCapacity_0f7a4 6 = .ok (.iload_n 1, 1) := by decide +kernel
theorem dJ5_newCapacity_0f7a4_7 : decode cJ5_newCapacity_0f7a4 7 = .ok (.aload_n 0, 1) := by decide +kernel
theorem dJ5_newCapacity_0f7a4_8 : decode cJ5_newCapacity_0f7a4 8 = .ok (.getfield 22, 3) := by decide +kernel
theorem dJ5_newCapacity_0f7a4_11 : decode cJ5_newCapacity_0f7a4 11 = .ok (.ishl, 1) := by decide +kernel
theorem dJ5_newCapacity_0f7a4_12 : decode cJ5_newCapacity_0f7a4 12 = .ok (.istore_n 3, 1) := by decide +kernel
theorem dJ5_newCapacity_0f7a4_13 : decode cJ5_newCapacity_0f7a4 13 = .ok (.iload_n 3, 1) := by decide +kernel
theorem dJ5_newCapacity_0f7a4_14 : decode cJ5_newCapacity_0f7a4 14 = .ok (.iload_n 2, 1) := by decide +kernel
theorem dJ5_newCapacity_0f7a4_15 : decode cJ5_newCapacity_0f7a4 15 = .ok (.isub, 1) := by decide +kernel
theorem dJ5_newCapacity_0f7a4_16 : decode cJ5_newCapacity_0f7a4 16 = .ok (.istore 4, 2) := by decide +kernel
theorem dJ5_newCapacity_0f7a4_18 : decode cJ5_newCapacity_0f7a4 18 = .ok (.iload_n 2, 1) := by decide +kernel
theorem dJ5_newCapacity_0f7a4_19 : decode cJ5_newCapacity_0f7a4 19 = .ok (.iload 4, 2) := by decide +kernel
theorem dJ5_newCapacity_0f7a4_21 : decode cJ5_newCapacity_0f7a4 21 = .ok (.iload_n 2, 1) := by decide +kernel
theorem dJ5_newCapacity_0f7a4_22 : decode cJ5_newCapacity_0f7a4 22 = .ok (.iconst 2, 1) := by decide +kernel
theorem dJ5_newCapacity_0f7a4_23 : decode cJ5_newCapacity_0f7a4 23 = .ok (.aload_n 0, 1) := by decide +kernel
theorem dJ5_newCapacity_0f7a4_24 : decode cJ5_newCapacity_0f7a4 24 = .ok (.getfield 22, 3) := by decide +kernel
theorem dJ5_newCapacity_0f7a4_27 : decode cJ5_newCapacity_0f7a4 27 = .ok (.ishl, 1) := by decide +kernel
theorem dJ5_newCapacity_0f7a4_28 : decode cJ5_newCapacity_0f7a4 28 = .ok (.iadd, 1) := by decide +kernel
theorem dJ5_newCapacity_0f7a4_29 : decode cJ5_newCapacity_0f7a4 29 = .ok (.invokestatic 114, 3) := by decide +kernel
theorem dJ5_newCapacity_0f7a4_32 : decode cJ5_newCapacity_0f7a4 32 = .ok (.istore 5, 2) := by decide +kernel
theorem dJ5_newCapacity_0f7a4_34 : decode cJ5_newCapacity_0f7a4 34 = .ok (.iload 5, 2) := by decide +kernel
theorem dJ5_newCapacity_0f7a4_36 : decode cJ5_newCapacity_0f7a4 36 = .ok (.ldc 39, 2) := by decide +kernel
theorem dJ5_newCapacity_0f7a4_38 : decode cJ5_newCapacity_0f7a4 38 = .ok (.if_icmp .ne 13, 3) := by decide +kernel
theorem dJ5_newCapacity_0f7a4_41 : decode cJ5_newCapacity_0f7a4 41 = .ok (.new 120, 3) := by decide +kernel
theorem dJ5_newCapacity_0f7a4_44 : decode cJ5_newCapacity_0f7a4 44 = .ok (.dup, 1) := by decide +kernel
theorem dJ5_newCapacity_0f7a4_45 : decode cJ5_newCapacity_0f7a4 45 = .ok (.ldc 122, 2) := by decide +kernel
theorem dJ5_newCapacity_0f7a4_47 : decode cJ5_newCapacity_0f7a4 47 = .ok (.invokespecial 124, 3) := by decide +kernel
theorem dJ5_newCapacity_0f7a4_50 : decode cJ5_newCapacity_0f7a4 50 = .ok (.athrow, 1) := by decide +kernel
theorem dJ5_newCapacity_0f7a4_51 : decode cJ5_newCapacity_0f7a4 51 = .ok (.iload 5, 2) := by decide +kernel
theorem dJ5_newCapacity_0f7a4_53 : decode cJ5_newCapacity_0f7a4 53 = .ok (.aload_n 0, 1) := by decide +kernel
theorem dJ5_newCapacity_0f7a4_54 : decode cJ5_newCapacity_0f7a4 54 = .ok (.getfield 22, 3) := by decide +kernel
theorem dJ5_newCapacity_0f7a4_57 : decode cJ5_newCapacity_0f7a4 57 = .ok (.ishr, 1) := by decide +kernel
theorem dJ5_newCapacity_0f7a4_58 : decode cJ5_newCapacity_0f7a4 58 = .ok (.ireturn, 1) := by decide +kernel
theorem dJ5_setLength_d00df_0 : decode cJ5_setLength_d00df 0 = .ok (.iload_n 1, 1) := by decide +kernel
theorem dJ5_setLength_d00df_1 : decode cJ5_setLength_d00df 1 = .ok (.ifCond .ge 12, 3) := by decide +kernel
theorem dJ5_setLength_d00df_4 : decode cJ5_setLength_d00df 4 = .ok (.new 129, 3) := by decide +kernel
theorem dJ5_setLength_d00df_7 : decode cJ5_setLength_d00df 7 = .ok (.dup, 1) := by decide +kernel
theorem dJ5_setLength_d00df_8 : decode cJ5_setLength_d00df 8 = .ok (.iload_n 1, 1) := by decide +kernel
theorem dJ5_setLength_d00df_9 : decode cJ5_setLength_d00df 9 = .ok (.invokespecial 131, 3) := by decide +kernel
theorem dJ5_setLength_d00df_12 : decode cJ5_setLength_d00df 12 = .ok (.athrow, 1) := by decide +kernel
theorem dJ5_setLength_d00df_13 : decode cJ5_setLength_d00df 13 = .ok (.aload_n 0, 1) := by decide +kernel
theorem dJ5_setLength_d00df_14 : decode cJ5_setLength_d00df 14 = .ok (.iload_n 1, 1) := by decide +kernel
theorem dJ5_setLength_d00df_15 : decode cJ5_setLength_d00df 15 = .ok (.invokevirtual 100, 3) := by decide +kernel
theorem dJ5_setLength_d00df_18 : decode cJ5_setLength_d00df 18 = .ok (.aload_n 0, 1) := by decide +kernel
theorem dJ5_setLength_d00df_19 : decode cJ5_setLength_d00df 19 = .ok (.getfield 79, 3) := by decide +kernel
theorem dJ5_setLength_d00df_22 : decode cJ5_setLength_d00df 22 = .ok (.iload_n 1, 1) := by decide +kernel
theorem dJ5_setLength_d00df_23 : decode cJ5_setLength_d00df 23 = .ok (.if_icmp .ge 40, 3) := by decide +kernel
theorem dJ5_setLength_d00df_26 : decode cJ5_setLength_d00df 26 = .ok (.aload_n 0, 1) := by decide +kernel
theorem dJ5_setLength_d00df_27 : decode cJ5_setLength_d00df 27 = .ok (.invokevirtual 83, 3) := by decide +kernel
theorem dJ5_setLength_d00df_30 : decode cJ5_setLength_d00df 30 = .ok (.ifCond .eq 18, 3) := by decide +kernel
theorem dJ5_setLength_d00df_33 : decode cJ5_setLength_d00df 33 = .ok (.aload_n 0, 1) := by decide +kernel
theorem dJ5_setLength_d00df_34 : decode cJ5_setLength_d00df 34 = .ok (.getfield 15, 3) := by decide +kernel
theorem dJ5_setLength_d00df_37 : decode cJ5_setLength_d00df 37 = .ok (.aload_n 0, 1) := by decide +kernel
theorem dJ5_setLength_d00df_38 : decode cJ5_setLength_d00df 38 = .ok (.getfield 79, 3) := by decide +kernel
theorem dJ5_setLength_d00df_41 : decode cJ5_setLength_d00df 41 = .ok (.iload_n 1, 1) := by decide +kernel
theorem dJ5_setLength_d00df_42 : decode cJ5_setLength_d00df 42 = .ok (.invokestatic 133, 3) := by decide +kernel
theorem dJ5_setLength_d00df_45 : decode cJ5_setLength_d00df 45 = .ok (.goto 31, 3) := by decide +kernel
theorem dJ5_setLength_d00df_48 : decode cJ5_setLength_d00df 48 = .ok (.aload_n 0, 1) := by decide +kernel
theorem dJ5_setLength_d00df_49 : decode cJ5_setLength_d00df 49 = .ok (.getfield 15, 3) := by decide +kernel
theorem dJ5_setLength_d00df_52 : decode cJ5_setLength_d00df 52 = .ok (.aload_n 0, 1) := by decide +kernel
theorem dJ5_setLength_d00df_53 : decode cJ5_setLength_d00df 53 = .ok (.getfield 79, 3) := by decide +kernel
theorem dJ5_setLength_d00df_56 : decode cJ5_setLength_d00df 56 = .ok (.iload_n 1, 1) := by decide +kernel
theorem dJ5_setLength_d00df_57 : decode cJ5_setLength_d00df 57 = .ok (.invokestatic 137, 3) := by decide +kernel
theorem dJ5_setLength_d00df_60 : decode cJ5_setLength_d00df 60 = .ok (.goto 16, 3) := by decide +kernel
theorem dJ5_setLength_d00df_63 : decode cJ5_setLength_d00df 63 = .ok (.aload_n 0, 1) := by decide +kernel
theorem dJ5_setLength_d00df_64 : decode cJ5_setLength_d00df 64 = .ok (.getfield 79, 3) := by decide +kernel
theorem dJ5_setLength_d00df_67 : decode cJ5_setLength_d00df 67 = .ok (.iload_n 1, 1) := by decide +kernel
theorem dJ5_setLength_d00df_68 : decode cJ5_setLength_d00df 68 = .ok (.if_icmp .le 8, 3) := by decide +kernel
theorem dJ5_setLength_d00df_71 : decode cJ5_setLength_d00df 71 = .ok (.aload_n 0, 1) := by decide +kernel
theorem dJ5_setLength_d00df_72 : decode cJ5_setLength_d00df 72 = .ok (.iconst 1, 1) := by decide +kernel
theorem dJ5_setLength_d00df_73 : decode cJ5_setLength_d00df 73 = .ok (.putfield 73, 3) := by decide +kernel
theorem dJ5_setLength_d00df_76 : decode cJ5_setLength_d00df 76 = .ok (.aload_n 0, 1) := by decide +kernel
theorem dJ5_setLength_d00df_77 : decode cJ5_setLength_d00df 77 = .ok (.iload_n 1, 1) := by decide +kernel
theorem dJ5_setLength_d00df_78 : decode cJ5_setLength_d00df 78 = .ok (.putfield 79, 3) := by decide +kernel
theorem dJ5_setLength_d00df_81 : decode cJ5_setLength_d00df 81 = .ok (.return_, 1) := by decide +kernel
theorem dJ5_append_cf1ce_0 : decode cJ5_append_cf1ce 0 = .ok (.aload_n 1, 1) := by decide +kernel
theorem dJ5_append_cf1ce_1 : decode cJ5_append_cf1ce 1 = .ok (.ifnonnull 8, 3) := by decide +kernel
theorem dJ5_append_cf1ce_4 : decode cJ5_append_cf1ce 4 = .ok (.aload_n 0, 1) := by decide +kernel
theorem dJ5_append_cf1ce_5 : decode cJ5_append_cf1ce 5 = .ok (.invokevirtual 204, 3) := by decide +kernel
theorem dJ5_append_cf1ce_8 : decode cJ5_append_cf1ce 8 = .ok (.areturn, 1) := by decide +kernel
theorem dJ5_append_cf1ce_9 : decode cJ5_append_cf1ce 9 = .ok (.aload_n 1, 1) := by decide +kernel
theorem dJ5_append_cf1ce_10 : decode cJ5_append_cf1ce 10 = .ok (.invokevirtual 32, 3) := by decide +kernel
theorem dJ5_append_cf1ce_13 : decode cJ5_append_cf1ce 13 = .ok (.istore_n 2, 1) := by decide +kernel
theorem dJ5_append_cf1ce_14 : decode cJ5_append_cf1ce 14 = .ok (.aload_n 0, 1) := by decide +kernel
theorem dJ5_append_cf1ce_15 : decode cJ5_append_cf1ce 15 = .ok (.aload_n 0, 1) := by decide +kernel
theorem dJ5_append_cf1ce_16 : decode cJ5_append_cf1ce 16 = .ok (.getfield 79, 3) := by decide +kernel
theorem dJ5_append_cf1ce_19 : decode cJ5_append_cf1ce 19 = .ok (.iload_n 2, 1) := by decide +kernel
theorem dJ5_append_cf1ce_20 : decode cJ5_append_cf1ce 20 = .ok (.iadd, 1) := by decide +kernel
theorem dJ5_append_cf1ce_21 : decode cJ5_append_cf1ce 21 = .ok (.invokevirtual 100, 3) := by decide +kernel
theorem dJ5_append_cf1ce_24 : decode cJ5_append_cf1ce 24 = .ok (.aload_n 0, 1) := by decide +kernel
theorem dJ5_append_cf1ce_25 : decode cJ5_append_cf1ce 25 = .ok (.aload_n 0, 1) := by decide +kernel
theorem dJ5_append_cf1ce_26 : decode cJ5_append_cf1ce 26 = .ok (.getfield 79, 3) := by decide +kernel
theorem dJ5_append_cf1ce_29 : decode cJ5_append_cf1ce 29 = .ok (.aload_n 1, 1) := by decide +kernel
theorem dJ5_append_cf1ce_30 : decode cJ5_append_cf1ce 30 = .ok (.invokevirtual 208, 3) := by decide +kernel
theorem dJ5_append_cf1ce_33 : decode cJ5_append_cf1ce 33 = .ok (.aload_n 0, 1) := by decide +kernel
theorem dJ5_append_cf1ce_34 : decode cJ5_append_cf1ce 34 = .ok (.dup, 1) := by decide +kernel
theorem dJ5_append_cf1ce_35 : decode cJ5_append_cf1ce 35 = .ok (.getfield 79, 3) := by decide +kernel
theorem dJ5_append_cf1ce_38 : decode cJ5_append_cf1ce 38 = .ok (.iload_n 2, 1) := by decide +kernel
theorem dJ5_append_cf1ce_39 : decode cJ5_append_cf1ce 39 = .ok (.iadd, 1) := by decide +kernel
theorem dJ5_append_cf1ce_40 : decode cJ5_append_cf1ce 40 = .ok (.putfield 79, 3) := by decide +kernel
theorem dJ5_append_cf1ce_43 : decode cJ5_append_cf1ce 43 = .ok (.aload_n 0, 1) := by decide +kernel
theorem dJ5_append_cf1ce_44 : decode cJ5_append_cf1ce 44 = .ok (.areturn, 1) := by decide +kernel
theorem dJ5_append_3fe6f_0 : decode cJ5_append_3fe6f 0 = .ok (.aload_n 0, 1) := by decide +kernel
theorem dJ5_append_3fe6f_1 : decode cJ5_append_3fe6f 1 = .ok (.aload_n 0, 1) := by decide +kernel
theorem dJ5_append_3fe6f_2 : decode cJ5_append_3fe6f 2 = .ok (.getfield 79, 3) := by decide +kernel
theorem dJ5_append_3fe6f_5 : decode cJ5_append_3fe6f 5 = .ok (.iconst 1, 1) := by decide +kernel
theorem dJ5_append_3fe6f_6 : decode cJ5_append_3fe6f 6 = .ok (.iadd, 1) := by decide +kernel
theorem dJ5_append_3fe6f_7 : decode cJ5_append_3fe6f 7 = .ok (.invokevirtual 100, 3) := by decide +kernel
theorem dJ5_append_3fe6f_10 : decode cJ5_append_3fe6f 10 = .ok (.aload_n 0, 1) := by decide +kernel
theorem dJ5_append_3fe6f_11 : decode cJ5_append_3fe6f 11 = .ok (.invokevirtual 83, 3) := by decide +kernel
theorem dJ5_append_3fe6f_14 : decode cJ5_append_3fe6f 14 = .ok (.ifCond .eq 31, 3) := by decide +kernel
theorem dJ5_append_3fe6f_17 : decode cJ5_append_3fe6f 17 = .ok (.iload_n 1, 1) := by decide +kernel
theorem dJ5_append_3fe6f_18 : decode cJ5_append_3fe6f 18 = .ok (.invokestatic 191, 3) := by decide +kernel
theorem dJ5_append_3fe6f_21 : decode cJ5_append_3fe6f 21 = .ok (.ifCond .eq 24, 3) := by decide +kernel
theorem dJ5_append_3fe6f_24 : decode cJ5_append_3fe6f 24 = .ok (.aload_n 0, 1) := by decide +kernel
theorem dJ5_append_3fe6f_25 : decode cJ5_append_3fe6f 25 = .ok (.getfield 15, 3) := by decide +kernel
theorem dJ5_append_3fe6f_28 : decode cJ5_append_3fe6f 28 = .ok (.aload_n 0, 1) := by decide +kernel
theorem dJ5_append_3fe6f_29 : decode cJ5_append_3fe6f 29 = .ok (.dup, 1) := by decide +kernel
theorem dJ5_append_3fe6f_30 : decode cJ5_append_3fe6f 30 = .ok (.getfield 79, 3) := by decide +kernel
theorem dJ5_append_3fe6f_33 : decode cJ5_append_3fe6f 33 = .ok (.dup_x1, 1) := by decide +kernel
theorem dJ5_append_3fe6f_34 : decode cJ5_append_3fe6f 34 = .ok (.iconst 1, 1) := by decide +kernel
theorem dJ5_append_3fe6f_35 : decode cJ5_append_3fe6f 35 = .ok (.iadd, 1) := by decide +kernel
theorem dJ5_append_3fe6f_36 : decode cJ5_append_3fe6f 36 = .ok (.putfield 79, 3) := by decide +kernel
theorem dJ5_append_3fe6f_39 : decode cJ5_append_3fe6f 39 = .ok (.iload_n 1, 1) := by decide +kernel
theorem dJ5_append_3fe6f_40 : decode cJ5_append_3fe6f 40 = .ok (.i2b, 1) := by decide +kernel
theorem dJ5_append_3fe6f_41 : decode cJ5_append_3fe6f 41 = .ok (.bastore, 1) := by decide +kernel
theorem dJ5_append_3fe6f_42 : decode cJ5_append_3fe6f 42 = .ok (.goto 33, 3) := by decide +kernel
theorem dJ5_append_3fe6f_45 : decode cJ5_append_3fe6f 45 = .ok (.aload_n 0, 1) := by decide +kernel
theorem dJ5_append_3fe6f_46 : decode cJ5_append_3fe6f 46 = .ok (.invokevirtual 83, 3) := by decide +kernel
theorem dJ5_append_3fe6f_49 : decode cJ5_append_3fe6f 49 = .ok (.ifCond .eq 7, 3) := by decide +kernel
theorem dJ5_append_3fe6f_52 : decode cJ5_append_3fe6f 52 = .ok (.aload_n 0, 1) := by decide +kernel
theorem dJ5_append_3fe6f_53 : decode cJ5_append_3fe6f 53 = .ok (.invokevirtual 195, 3) := by decide +kernel
theorem dJ5_append_3fe6f_56 : decode cJ5_append_3fe6f 56 = .ok (.aload_n 0, 1) := by decide +kernel
theorem dJ5_append_3fe6f_57 : decode cJ5_append_3fe6f 57 = .ok (.getfield 15, 3) := by decide +kernel
theorem dJ5_append_3fe6f_60 : decode cJ5_append_3fe6f 60 = .ok (.aload_n 0, 1) := by decide +kernel
theorem dJ5_append_3fe6f_61 : decode cJ5_append_3fe6f 61 = .ok (.dup, 1) := by decide +kernel
theorem dJ5_append_3fe6f_62 : decode cJ5_append_3fe6f 62 = .ok (.getfield 79, 3) := by decide +kernel
theorem dJ5_append_3fe6f_65 : decode cJ5_append_3fe6f 65 = .ok (.dup_x1, 1) := by decide +kernel
theorem dJ5_append_3fe6f_66 : decode cJ5_append_3fe6f 66 = .ok (.iconst 1, 1) := by decide +kernel
theorem dJ5_append_3fe6f_67 : decode cJ5_append_3fe6f 67 = .ok (.iadd, 1) := by decide +kernel
theorem dJ5_append_3fe6f_68 : decode cJ5_append_3fe6f 68 = .ok (.putfield 79, 3) := by decide +kernel
theorem dJ5_append_3fe6f_71 : decode cJ5_append_3fe6f 71 = .ok (.iload_n 1, 1) := by decide +kernel
theorem dJ5_append_3fe6f_72 : decode cJ5_append_3fe6f 72 = .ok (.invokestatic 197, 3) := by decide +kernel
theorem dJ5_append_3fe6f_75 : decode cJ5_append_3fe6f 75 = .ok (.aload_n 0, 1) := by decide +kernel
theorem dJ5_append_3fe6f_76 : decode cJ5_append_3fe6f 76 = .ok (.areturn, 1) := by decide +kernel
theorem dJ5_append_c97b9_0 : decode cJ5_append_c97b9 0 = .ok (.aload_n 0, 1) := by decide +kernel
theorem dJ5_append_c97b9_1 : decode cJ5_append_c97b9 1 = .ok (.getfield 79, 3) := by decide +kernel
theorem dJ5_append_c97b9_4 : decode cJ5_append_c97b9 4 = .ok (.istore_n 2, 1) := by decide +kernel
theorem dJ5_append_c97b9_5 : decode cJ5_append_c97b9 5 = .ok (.iload_n 2, 1) := by decide +kernel
theorem dJ5_append_c97b9_6 : decode cJ5_append_c97b9 6 = .ok (.iload_n 1, 1) := by decide +kernel
theorem dJ5_append_c97b9_7 : decode cJ5_append_c97b9 7 = .ok (.invokestatic 245, 3) := by decide +kernel
theorem dJ5_append_c97b9_10 : decode cJ5_append_c97b9 10 = .ok (.iadd, 1) := by decide +kernel
theorem dJ5_append_c97b9_11 : decode cJ5_append_c97b9 11 = .ok (.istore_n 3, 1) := by decide +kernel
theorem dJ5_append_c97b9_12 : decode cJ5_append_c97b9 12 = .ok (.aload_n 0, 1) := by decide +kernel
theorem dJ5_append_c97b9_13 : decode cJ5_append_c97b9 13 = .ok (.iload_n 3, 1) := by decide +kernel
theorem dJ5_append_c97b9_14 : decode cJ5_append_c97b9 14 = .ok (.invokevirtual 100, 3) := by decide +kernel
theorem dJ5_append_c97b9_17 : decode cJ5_append_c97b9 17 = .ok (.aload_n 0, 1) := by decide +kernel
theorem dJ5_append_c97b9_18 : decode cJ5_append_c97b9 18 = .ok (.invokevirtual 83, 3) := by decide +kernel
theorem dJ5_append_c97b9_21 : decode cJ5_append_c97b9 21 = .ok (.ifCond .eq 16, 3) := by decide +kernel
theorem dJ5_append_c97b9_24 : decode cJ5_append_c97b9 24 = .ok (.iload_n 1, 1) := by decide +kernel
theorem dJ5_append_c97b9_25 : decode cJ5_append_c97b9 25 = .ok (.iload_n 3, 1) := by decide +kernel
theorem dJ5_append_c97b9_26 : decode cJ5_append_c97b9 26 = .ok (.aload_n 0, 1) := by decide +kernel
theorem dJ5_append_c97b9_27 : decode cJ5_append_c97b9 27 = .ok (.getfield 15, 3) := by decide +kernel
theorem dJ5_append_c97b9_30 : decode cJ5_append_c97b9 30 = .ok (.invokestatic 248, 3) := by decide +kernel
theorem dJ5_append_c97b9_33 : decode cJ5_append_c97b9 33 = .ok (.pop, 1) := by decide +kernel
theorem dJ5_append_c97b9_34 : decode cJ5_append_c97b9 34 = .ok (.goto 14, 3) := by decide +kernel
theorem dJ5_append_c97b9_37 : decode cJ5_append_c97b9 37 = .ok (.iload_n 1, 1) := by decide +kernel
theorem dJ5_append_c97b9_38 : decode cJ5_append_c97b9 38 = .ok (.iload_n 2, 1) := by decide +kernel
theorem dJ5_append_c97b9_39 : decode cJ5_append_c97b9 39 = .ok (.iload_n 3, 1) := by decide +kernel
theorem dJ5_append_c97b9_40 : decode cJ5_append_c97b9 40 = .ok (.aload_n 0, 1) := by decide +kernel
theorem dJ5_append_c97b9_41 : decode cJ5_append_c97b9 41 = .ok (.getfield 15, 3) := by decide +kernel
theorem dJ5_append_c97b9_44 : decode cJ5_append_c97b9 44 = .ok (.invokestatic 251, 3) := by decide +kernel
theorem dJ5_append_c97b9_47 : decode cJ5_append_c97b9 47 = .ok (.pop, 1) := by decide +kernel
theorem dJ5_append_c97b9_48 : decode cJ5_append_c97b9 48 = .ok (.aload_n 0, 1) := by decide +kernel
theorem dJ5_append_c97b9_49 : decode cJ5_append_c97b9 49 = .ok (.iload_n 3, 1) := by decide +kernel
theorem dJ5_append_c97b9_50 : decode cJ5_append_c97b9 50 = .ok (.putfield 79, 3) := by decide +kernel
theorem dJ5_append_c97b9_53 : decode cJ5_append_c97b9 53 = .ok (.aload_n 0, 1) := by decide +kernel
theorem dJ5_append_c97b9_54 : decode cJ5_append_c97b9 54 = .ok (.areturn, 1) := by decide +kernel
theorem dJ5_getValue_6d5f1_0 : decode cJ5_getValue_6d5f1 0 = .ok (.aload_n 0, 1) := by decide +kernel
theorem dJ5_getValue_6d5f1_1 : decode cJ5_getValue_6d5f1 1 = .ok (.getfield 15, 3) := by decide +kernel
theorem dJ5_getValue_6d5f1_4 : decode cJ5_getValue_6d5f1 4 = .ok (.areturn, 1) := by decide +kernel
theorem dJ5_isLatin1_aae02_0 : decode cJ5_isLatin1_aae02 0 = .ok (.getstatic 18, 3) := by decide +kernel
theorem dJ5_isLatin1_aae02_3 : decode cJ5_isLatin1_aae02 3 = .ok (.ifCond .eq 14, 3) := by decide +kernel
theorem dJ5_isLatin1_aae02_6 : decode cJ5_isLatin1_aae02 6 = .ok (.aload_n 0, 1) := by decide +kernel
theorem dJ5_isLatin1_aae02_7 : decode cJ5_isLatin1_aae02 7 = .ok (.getfield 22, 3) := by decide +kernel
theorem dJ5_isLatin1_aae02_10 : decode cJ5_isLatin1_aae02 10 = .ok (.ifCond .ne 7, 3) := by decide +kernel
theorem dJ5_isLatin1_aae02_13 : decode cJ5_isLatin1_aae02 13 = .ok (.iconst 1, 1) := by decide +kernel
theorem dJ5_isLatin1_aae02_14 : decode cJ5_isLatin1_aae02 14 = .ok (.goto 4, 3) := by decide +kernel
theorem dJ5_isLatin1_aae02_17 : decode cJ5_isLatin1_aae02 17 = .ok (.iconst 0, 1) := by decide +kernel
theorem dJ5_isLatin1_aae02_18 : decode cJ5_isLatin1_aae02 18 = .ok (.ireturn, 1) := by decide +kernel
theorem dJ5_inflateIfNeededFor_a7421_0 : decode cJ5_inflateIfNeededFor_a7421 0 = .ok (.getstatic 18, 3) := by decide +kernel
theorem dJ5_inflateIfNeededFor_a7421_3 : decode cJ5_inflateIfNeededFor_a7421 3 = .ok (.ifCond .eq 18, 3) := by decide +kernel
theorem dJ5_inflateIfNeededFor_a7421_6 : decode cJ5_inflateIfNeededFor_a7421 6 = .ok (.aload_n 0, 1) := by decide +kernel
theorem dJ5_inflateIfNeededFor_a7421_7 : decode cJ5_inflateIfNeededFor_a7421 7 = .ok (.getfield 22, 3) := by decide +kernel
theorem dJ5_inflateIfNeededFor_a7421_10 : decode cJ5_inflateIfNeededFor_a7421 10 = .ok (.aload_n 1, 1) := by decide +kernel
theorem dJ5_inflateIfNeededFor_a7421_11 : decode cJ5_inflateIfNeededFor_a7421 11 = .ok (.invokevirtual 40, 3) := by decide +kernel
theorem dJ5_inflateIfNeededFor_a7421_14 : decode cJ5_inflateIfNeededFor_a7421 14 = .ok (.if_icmp .eq 7, 3) := by decide +kernel
theorem dJ5_inflateIfNeededFor_a7421_17 : decode cJ5_inflateIfNeededFor_a7421 17 = .ok (.aload_n 0, 1) := by decide +kernel
theorem dJ5_inflateIfNeededFor_a7421_18 : decode cJ5_inflateIfNeededFor_a7421 18 = .ok (.invokevirtual 195, 3) := by decide +kernel
theorem dJ5_inflateIfNeededFor_a7421_21 : decode cJ5_inflateIfNeededFor_a7421 21 = .ok (.return_, 1) := by decide +kernel
theorem dJ5_putStringAt_47b60_0 : decode cJ5_putStringAt_47b60 0 = .ok (.aload_n 0, 1) := by decide +kernel
theorem dJ5_putStringAt_47b60_1 : decode cJ5_putStringAt_47b60 1 = .ok (.aload_n 2, 1) := by decide +kernel
theorem dJ5_putStringAt_47b60_2 : decode cJ5_putStringAt_47b60 2 = .ok (.invokevirtual 397, 3) := by decide +kernel
theorem dJ5_putStringAt_47b60_5 : decode cJ5_putStringAt_47b60 5 = .ok (.aload_n 2, 1) := by decide +kernel
theorem dJ5_putStringAt_47b60_6 : decode cJ5_putStringAt_47b60 6 = .ok (.aload_n 0, 1) := by decide +kernel
theorem dJ5_putStringAt_47b60_7 : decode cJ5_putStringAt_47b60 7 = .ok (.getfield 15, 3) := by decide +kernel
theorem dJ5_putStringAt_47b60_10 : decode cJ5_putStringAt_47b60 10 = .ok (.iload_n 1, 1) := by decide +kernel
theorem dJ5_putStringAt_47b60_11 : decode cJ5_putStringAt_47b60 11 = .ok (.aload_n 0, 1) := by decide +kernel
theorem dJ5_putStringAt_47b60_12 : decode cJ5_putStringAt_47b60 12 = .ok (.getfield 22, 3) := by decide +kernel
theorem dJ5_putStringAt_47b60_15 : decode cJ5_putStringAt_47b60 15 = .ok (.invokevirtual 399, 3) := by decide +kernel
theorem dJ5_putStringAt_47b60_18 : decode cJ5_putStringAt_47b60 18 = .ok (.return_, 1) := by decide +kernel
theorem dJ6_getChars_ba4f3_0 : decode cJ6_getChars_ba4f3 0 = .ok (.iload_n 1, 1) := by decide +kernel
theorem dJ6_getChars_ba4f3_1 : decode cJ6_getChars_ba4f3 1 = .ok (.istore 5, 2) := by decide +kernel
theorem dJ6_getChars_ba4f3_3 : decode cJ6_getChars_ba4f3 3 = .ok (.iload_n 0, 1) := by decide +kernel
theorem dJ6_getChars_ba4f3_4 : decode cJ6_getChars_ba4f3 4 = .ok (.ifCond .ge 7, 3) := by decide +kernel
theorem dJ6_getChars_ba4f3_7 : decode cJ6_getChars_ba4f3 7 = .ok (.iconst 1, 1) := by decide +kernel
theorem dJ6_getChars_ba4f3_8 : decode cJ6_getChars_ba4f3 8 = .ok (.goto 4, 3) := by decide +kernel
theorem dJ6_getChars_ba4f3_11 : decode cJ6_getChars_ba4f3 11 = .ok (.iconst 0, 1) := by decide +kernel
theorem dJ6_getChars_ba4f3_12 : decode cJ6_getChars_ba4f3 12 = .ok (.istore 6, 2) := by decide +kernel
theorem dJ6_getChars_ba4f3_14 : decode cJ6_getChars_ba4f3 14 = .ok (.iload 6, 2) := by decide +kernel
theorem dJ6_getChars_ba4f3_16 : decode cJ6_getChars_ba4f3 16 = .ok (.ifCond .ne 6, 3) := by decide +kernel
theorem dJ6_getChars_ba4f3_19 : decode cJ6_getChars_ba4f3 19 = .ok (.iload_n 0, 1) := by decide +kernel
theorem dJ6_getChars_ba4f3_20 : decode cJ6_getChars_ba4f3 20 = .ok (.ineg, 1) := by decide +kernel
theorem dJ6_getChars_ba4f3_21 : decode cJ6_getChars_ba4f3 21 = .ok (.istore_n 0, 1) := by decide +kernel
theorem dJ6_getChars_ba4f3_22 : decode cJ6_getChars_ba4f3 22 = .ok (.iload_n 0, 1) := by decide +kernel
theorem dJ6_getChars_ba4f3_23 : decode cJ6_getChars_ba4f3 23 = .ok (.bipush (-100), 2) := by decide +kernel
theorem dJ6_getChars_ba4f3_25 : decode cJ6_getChars_ba4f3 25 = .ok (.if_icmp .gt 47, 3) := by decide +kernel
theorem dJ6_getChars_ba4f3_28 : decode cJ6_getChars_ba4f3 28 = .ok (.iload_n 0, 1) := by decide +kernel
theorem dJ6_getChars_ba4f3_29 : decode cJ6_getChars_ba4f3 29 = .ok (.bipush 100, 2) := by decide +kernel
theorem dJ6_getChars_ba4f3_31 : decode cJ6_getChars_ba4f3 31 = .ok (.idiv, 1) := by decide +kernel
theorem dJ6_getChars_ba4f3_32 : decode cJ6_getChars_ba4f3 32 = .ok (.istore_n 3, 1) := by decide +kernel
theorem dJ6_getChars_ba4f3_33 : decode cJ6_getChars_ba4f3 33 = .ok (.iload_n 3, 1) := by decide +kernel
theorem dJ6_getChars_ba4f3_34 : decode cJ6_getChars_ba4f3 34 = .ok (.bipush 100, 2) := by decide +kernel
theorem dJ6_getChars_ba4f3_36 : decode cJ6_getChars_ba4f3 36 = .ok (.imul, 1) := by decide +kernel
theorem dJ6_getChars_ba4f3_37 : decode cJ6_getChars_ba4f3 37 = .ok (.iload_n 0, 1) := by decide +kernel
theorem dJ6_getChars_ba4f3_38 : decode cJ6_getChars_ba4f3 38 = .ok (.isub, 1) := by decide +kernel
theorem dJ6_getChars_ba4f3_39 : decode cJ6_getChars_ba4f3 39 = .ok (.istore 4, 2) := by decide +kernel
theorem dJ6_getChars_ba4f3_41 : decode cJ6_getChars_ba4f3 41 = .ok (.iload_n 3, 1) := by decide +kernel
theorem dJ6_getChars_ba4f3_42 : decode cJ6_getChars_ba4f3 42 = .ok (.istore_n 0, 1) := by decide +kernel
theorem dJ6_getChars_ba4f3_43 : decode cJ6_getChars_ba4f3 43 = .ok (.aload_n 2, 1) := by decide +kernel
theorem dJ6_getChars_ba4f3_44 : decode cJ6_getChars_ba4f3 44 = .ok (.iinc 5 (-1), 3) := by decide +kernel
theorem dJ6_getChars_ba4f3_47 : decode cJ6_getChars_ba4f3 47 = .ok (.iload 5, 2) := by decide +kernel
theorem dJ6_getChars_ba4f3_49 : decode cJ6_getChars_ba4f3 49 = .ok (.getstatic 83, 3) := by decide +kernel
theorem dJ6_getChars_ba4f3_52 : decode cJ6_getChars_ba4f3 52 = .ok (.iload 4, 2) := by decide +kernel
theorem dJ6_getChars_ba4f3_54 : decode cJ6_getChars_ba4f3 54 = .ok (.baload, 1) := by decide +kernel
theorem dJ6_getChars_ba4f3_55 : decode cJ6_getChars_ba4f3 55 = .ok (.bastore, 1) := by decide +kernel
theorem dJ6_getChars_ba4f3_56 : decode cJ6_getChars_ba4f3 56 = .ok (.aload_n 2, 1) := by decide +kernel
theorem dJ6_getChars_ba4f3_57 : decode cJ6_getChars_ba4f3 57 = .ok (.iinc 5 (-1), 3) := by decide +kernel
theorem dJ6_getChars_ba4f3_60 : decode cJ6_getChars_ba4f3 60 = .ok (.iload 5, 2) := by decide +kernel
theorem dJ6_getChars_ba4f3_62 : decode cJ6_getChars_ba4f3 62 = .ok (.getstatic 87, 3) := by decide +kernel
theorem dJ6_getChars_ba4f3_65 : decode cJ6_getChars_ba4f3 65 = .ok (.iload 4, 2) := by decide +kernel
theorem dJ6_getChars_ba4f3_67 : decode cJ6_getChars_ba4f3 67 = .ok (.baload, 1) := by decide +kernel
theorem dJ6_getChars_ba4f3_68 : decode cJ6_getChars_ba4f3 68 = .ok (.bastore, 1) := by decide +kernel
theorem dJ6_getChars_ba4f3_69 : decode cJ6_getChars_ba4f3 69 = .ok (.goto (-47), 3) := by decide +kernel
theorem dJ6_getChars_ba4f3_72 : decode cJ6_getChars_ba4f3 72 = .ok (.aload_n 2, 1) := by decide +kernel
theorem dJ6_getChars_ba4f3_73 : decode cJ6_getChars_ba4f3 73 = .ok (.iinc 5 (-1), 3) := by decide +kernel
theorem dJ6_getChars_ba4f3_76 : decode cJ6_getChars_ba4f3 76 = .ok (.iload 5, 2) := by decide +kernel
theorem dJ6_getChars_ba4f3_78 : decode cJ6_getChars_ba4f3 78 = .ok (.getstatic 83, 3) := by decide +kernel
theorem dJ6_getChars_ba4f3_81 : decode cJ6_getChars_ba4f3 81 = .ok (.iload_n 0, 1) := by decide +kernel
theorem dJ6_getChars_ba4f3_82 : decode cJ6_getChars_ba4f3 82 = .ok (.ineg, 1) := by decide +kernel
theorem dJ6_getChars_ba4f3_83 : decode cJ6_getChars_ba4f3 83 = .ok (.baload, 1) := by decide +kernel
theorem dJ6_getChars_ba4f3_84 : decode cJ6_getChars_ba4f3 84 = .ok (.bastore, 1) := by decide +kernel
theorem dJ6_getChars_ba4f3_85 : decode cJ6_getChars_ba4f3 85 = .ok (.iload_n 0, 1) := by decide +kernel
theorem dJ6_getChars_ba4f3_86 : decode cJ6_getChars_ba4f3 86 = .ok (.bipush (-9), 2) := by decide +kernel
theorem dJ6_getChars_ba4f3_88 : decode cJ6_getChars_ba4f3 88 = .ok (.if_icmp .ge 16, 3) := by decide +kernel
theorem dJ6_getChars_ba4f3_91 : decode cJ6_getChars_ba4f3 91 = .ok (.aload_n 2, 1) := by decide +kernel
theorem dJ6_getChars_ba4f3_92 : decode cJ6_getChars_ba4f3 92 = .ok (.iinc 5 (-1), 3) := by decide +kernel
theorem dJ6_getChars_ba4f3_95 : decode cJ6_getChars_ba4f3 95 = .ok (.iload 5, 2) := by decide +kernel
theorem dJ6_getChars_ba4f3_97 : decode cJ6_getChars_ba4f3 97 = .ok (.getstatic 87, 3) := by decide +kernel
theorem dJ6_getChars_ba4f3_100 : decode cJ6_getChars_ba4f3 100 = .ok (.iload_n 0, 1) := by decide +kernel
theorem dJ6_getChars_ba4f3_101 : decode cJ6_getChars_ba4f3 101 = .ok (.ineg, 1) := by decide +kernel
theorem dJ6_getChars_ba4f3_102 : decode cJ6_getChars_ba4f3 102 = .ok (.baload, 1) := by decide +kernel
theorem dJ6_getChars_ba4f3_103 : decode cJ6_getChars_ba4f3 103 = .ok (.bastore, 1) := by decide +kernel
theorem dJ6_getChars_ba4f3_104 : decode cJ6_getChars_ba4f3 104 = .ok (.iload 6, 2) := by decide +kernel
theorem dJ6_getChars_ba4f3_106 : decode cJ6_getChars_ba4f3 106 = .ok (.ifCond .eq 12, 3) := by decide +kernel
theorem dJ6_getChars_ba4f3_109 : decode cJ6_getChars_ba4f3 109 = .ok (.aload_n 2, 1) := by decide +kernel
theorem dJ6_getChars_ba4f3_110 : decode cJ6_getChars_ba4f3 110 = .ok (.iinc 5 (-1), 3) := by decide +kernel
theorem dJ6_getChars_ba4f3_113 : decode cJ6_getChars_ba4f3 113 = .ok (.iload 5, 2) := by decide +kernel
theorem dJ6_getChars_ba4f3_115 : decode cJ6_getChars_ba4f3 115 = .ok (.bipush 45, 2) := by decide +kernel
theorem dJ6_getChars_ba4f3_117 : decode cJ6_getChars_ba4f3 117 = .ok (.bastore, 1) := by decide +kernel
theorem dJ6_getChars_ba4f3_118 : decode cJ6_getChars_ba4f3 118 = .ok (.iload 5, 2) := by decide +kernel
theorem dJ6_getChars_ba4f3_120 : decode cJ6_getChars_ba4f3 120 = .ok (.ireturn, 1) := by decide +kernel
theorem dJ6_stringSize_0f7a4_0 : decode cJ6_stringSize_0f7a4 0 = .ok (.iconst 1, 1) := by decide +kernel
theorem dJ6_stringSize_0f7a4_1 : decode cJ6_stringSize_0f7a4 1 = .ok (.istore_n 1, 1) := by decide +kernel
theorem dJ6_stringSize_0f7a4_2 : decode cJ6_stringSize_0f7a4 2 = .ok (.iload_n 0, 1) := by decide +kernel
theorem dJ6_stringSize_0f7a4_3 : decode cJ6_stringSize_0f7a4 3 = .ok (.ifCond .lt 8, 3) := by decide +kernel
theorem dJ6_stringSize_0f7a4_6 : decode cJ6_stringSize_0f7a4 6 = .ok (.iconst 0, 1) := by decide +kernel
theorem dJ6_stringSize_0f7a4_7 : decode cJ6_stringSize_0f7a4 7 = .ok (.istore_n 1, 1) := by decide +kernel
theorem dJ6_stringSize_0f7a4_8 : decode cJ6_stringSize_0f7a4 8 = .ok (.iload_n 0, 1) := by decide +kernel
theorem dJ6_stringSize_0f7a4_9 : decode cJ6_stringSize_0f7a4 9 = .ok (.ineg, 1) := by decide +kernel
theorem dJ6_stringSize_0f7a4_10 : decode cJ6_stringSize_0f7a4 10 = .ok (.istore_n 0, 1) := by decide +kernel
theorem dJ6_stringSize_0f7a4_11 : decode cJ6_stringSize_0f7a4 11 = .ok (.bipush (-10), 2) := by decide +kernel
theorem dJ6_stringSize_0f7a4_13 : decode cJ6_stringSize_0f7a4 13 = .ok (.istore_n 2, 1) := by decide +kernel
theorem dJ6_stringSize_0f7a4_14 : decode cJ6_stringSize_0f7a4 14 = .ok (.iconst 1, 1) := by decide +kernel
theorem dJ6_stringSize_0f7a4_15 : decode cJ6_stringSize_0f7a4 15 = .ok (.istore_n 3, 1) := by decide +kernel
theorem dJ6_stringSize_0f7a4_16 : decode cJ6_stringSize_0f7a4 16 = .ok (.iload_n 3, 1) := by decide +kernel
theorem dJ6_stringSize_0f7a4_17 : decode cJ6_stringSize_0f7a4 17 = .ok (.bipush 10, 2) := by decide +kernel
theorem dJ6_stringSize_0f7a4_19 : decode cJ6_stringSize_0f7a4 19 = .ok (.if_icmp .ge 23, 3) := by decide +kernel
theorem dJ6_stringSize_0f7a4_22 : decode cJ6_stringSize_0f7a4 22 = .ok (.iload_n 0, 1) := by decide +kernel
theorem dJ6_stringSize_0f7a4_23 : decode cJ6_stringSize_0f7a4 23 = .ok (.iload_n 2, 1) := by decide +kernel
theorem dJ6_stringSize_0f7a4_24 : decode cJ6_stringSize_0f7a4 24 = .ok (.if_icmp .le 7, 3) := by decide +kernel
theorem dJ6_stringSize_0f7a4_27 : decode cJ6_stringSize_0f7a4 27 = .ok (.iload_n 3, 1) := by decide +kernel
theorem dJ6_stringSize_0f7a4_28 : decode cJ6_stringSize_0f7a4 28 = .ok (.iload_n 1, 1) := by decide +kernel
theorem dJ6_stringSize_0f7a4_29 : decode cJ6_stringSize_0f7a4 29 = .ok (.iadd, 1) := by decide +kernel
theorem dJ6_stringSize_0f7a4_30 : decode cJ6_stringSize_0f7a4 30 = .ok (.ireturn, 1) := by decide +kernel
theorem dJ6_stringSize_0f7a4_31 : decode cJ6_stringSize_0f7a4 31 = .ok (.bipush 10, 2) := by decide +kernel
theorem dJ6_stringSize_0f7a4_33 : decode cJ6_stringSize_0f7a4 33 = .ok (.iload_n 2, 1) := by decide +kernel
theorem dJ6_stringSize_0f7a4_34 : decode cJ6_stringSize_0f7a4 34 = .ok (.imul, 1) := by decide +kernel
theorem dJ6_stringSize_0f7a4_35 : decode cJ6_stringSize_0f7a4 35 = .ok (.istore_n 2, 1) := by decide +kernel
theorem dJ6_stringSize_0f7a4_36 : decode cJ6_stringSize_0f7a4 36 = .ok (.iinc 3 1, 3) := by decide +kernel
theorem dJ6_stringSize_0f7a4_39 : decode cJ6_stringSize_0f7a4 39 = .ok (.goto (-23), 3) := by decide +kernel
theorem dJ6_stringSize_0f7a4_42 : decode cJ6_stringSize_0f7a4 42 = .ok (.bipush 10, 2) := by decide +kernel
theorem dJ6_stringSize_0f7a4_44 : decode cJ6_stringSize_0f7a4 44 = .ok (.iload_n 1, 1) := by decide +kernel
theorem dJ6_stringSize_0f7a4_45 : decode cJ6_stringSize_0f7a4 45 = .ok (.iadd, 1) := by decide +kernel
theorem dJ6_stringSize_0f7a4_46 : decode cJ6_stringSize_0f7a4 46 = .ok (.ireturn, 1) := by decide +kernel
theorem dJ9_max_7cf53_0 : decode cJ9_max_7cf53 0 = .ok (.iload_n 0, 1) := by decide +kernel
theorem dJ9_max_7cf53_1 : decode cJ9_max_7cf53 1 = .ok (.iload_n 1, 1) := by decide +kernel
theorem dJ9_max_7cf53_2 : decode cJ9_max_7cf53 2 = .ok (.if_icmp .lt 7, 3) := by decide +kernel
theorem dJ9_max_7cf53_5 : decode cJ9_max_7cf53 5 = .ok (.iload_n 0, 1) := by decide +kernel
theorem dJ9_max_7cf53_6 : decode cJ9_max_7cf53 6 = .ok (.goto 4, 3) := by decide +kernel
theorem dJ9_max_7cf53_9 : decode cJ9_max_7cf53 9 = .ok (.iload_n 1, 1) := by decide +kernel
theorem dJ9_max_7cf53_10 : decode cJ9_max_7cf53 10 = .ok (.ireturn, 1) := by decide +kernel
theorem dJ9_min_7cf53_0 : decode cJ9_min_7cf53 0 = .ok (.iload_n 0, 1) := by decide +kernel
theorem dJ9_min_7cf53_1 : decode cJ9_min_7cf53 1 = .ok (.iload_n 1, 1) := by decide +kernel
theorem dJ9_min_7cf53_2 : decode cJ9_min_7cf53 2 = .ok (.if_icmp .gt 7, 3) := by decide +kernel
theorem dJ9_min_7cf53_5 : decode cJ9_min_7cf53 5 = .ok (.iload_n 0, 1) := by decide +kernel
theorem dJ9_min_7cf53_6 : decode cJ9_min_7cf53 6 = .ok (.goto 4, 3) := by decide +kernel
theorem dJ9_min_7cf53_9 : decode cJ9_min_7cf53 9 = .ok (.iload_n 1, 1) := by decide +kernel
theorem dJ9_min_7cf53_10 : decode cJ9_min_7cf53 10 = .ok (.ireturn, 1) := by decide +kernel
theorem dJ0_init_81219_0 : decode cJ0_init_81219 0 = .ok (.aload_n 0, 1) := by decide +kernel
theorem dJ0_init_81219_1 : decode cJ0_init_81219 1 = .ok (.aload_n 1, 1) := by decide +kernel
theorem dJ0_init_81219_2 : decode cJ0_init_81219 2 = .ok (.aconst_null, 1) := by decide +kernel
theorem dJ0_init_81219_3 : decode cJ0_init_81219 3 = .ok (.invokespecial 489, 3) := by decide +kernel
theorem dJ0_init_81219_6 : decode cJ0_init_81219 6 = .ok (.return_, 1) := by decide +kernel
theorem dJ0_length_8abf5_0 : decode cJ0_length_8abf5 0 = .ok (.aload_n 0, 1) := by decide +kernel
theorem dJ0_length_8abf5_1 : decode cJ0_length_8abf5 1 = .ok (.getfield 9, 3) := by decide +kernel
theorem dJ0_length_8abf5_4 : decode cJ0_length_8abf5 4 = .ok (.arraylength, 1) := by decide +kernel
theorem dJ0_length_8abf5_5 : decode cJ0_length_8abf5 5 = .ok (.aload_n 0, 1) := by decide +kernel
theorem dJ0_length_8abf5_6 : decode cJ0_length_8abf5 6 = .ok (.invokevirtual 335, 3) := by decide +kernel
theorem dJ0_length_8abf5_9 : decode cJ0_length_8abf5 9 = .ok (.ishr, 1) := by decide +kernel
theorem dJ0_length_8abf5_10 : decode cJ0_length_8abf5 10 = .ok (.ireturn, 1) := by decide +kernel
theorem dJ0_isEmpty_aae02_0 : decode cJ0_isEmpty_aae02 0 = .ok (.aload_n 0, 1) := by decide +kernel
theorem dJ0_isEmpty_aae02_1 : decode cJ0_isEmpty_aae02 1 = .ok (.getfield 9, 3) := by decide +kernel
theorem dJ0_isEmpty_aae02_4 : decode cJ0_isEmpty_aae02 4 = .ok (.arraylength, 1) := by decide +kernel
theorem dJ0_isEmpty_aae02_5 : decode cJ0_isEmpty_aae02 5 = .ok (.ifCond .ne 7, 3) := by decide +kernel
theorem dJ0_isEmpty_aae02_8 : decode cJ0_isEmpty_aae02 8 = .ok (.iconst 1, 1) := by decide +kernel
theorem dJ0_isEmpty_aae02_9 : decode cJ0_isEmpty_aae02 9 = .ok (.goto 4, 3) := by decide +kernel
theorem dJ0_isEmpty_aae02_12 : decode cJ0_isEmpty_aae02 12 = .ok (.iconst 0, 1) := by decide +kernel
theorem dJ0_isEmpty_aae02_13 : decode cJ0_isEmpty_aae02 13 = .ok (.ireturn, 1) := by decide +kernel
theorem dJ0_charAt_5068e_0 : decode cJ0_charAt_5068e 0 = .ok (.aload_n 0, 1) := by decide +kernel
theorem dJ0_charAt_5068e_1 : decode cJ0_charAt_5068e 1 = .ok (.invokevirtual 492, 3) := by decide +kernel
theorem dJ0_charAt_5068e_4 : decode cJ0_charAt_5068e 4 = .ok (.ifCond .eq 12, 3) := by decide +kernel
theorem dJ0_charAt_5068e_7 : decode cJ0_charAt_5068e 7 = .ok (.aload_n 0, 1) := by decide +kernel
theorem dJ0_charAt_5068e_8 : decode cJ0_charAt_5068e 8 = .ok (.getfield 9, 3) := by decide +kernel
theorem dJ0_charAt_5068e_11 : decode cJ0_charAt_5068e 11 = .ok (.iload_n 1, 1) := by decide +kernel
theorem dJ0_charAt_5068e_12 : decode cJ0_charAt_5068e 12 = .ok (.invokestatic 495, 3) := by decide +kernel
theorem dJ0_charAt_5068e_15 : decode cJ0_charAt_5068e 15 = .ok (.ireturn, 1) := by decide +kernel
theorem dJ0_charAt_5068e_16 : decode cJ0_charAt_5068e 16 = .ok (.aload_n 0, 1) := by decide +kernel
theorem dJ0_charAt_5068e_17 : decode cJ0_charAt_5068e 17 = .ok (.getfield 9, 3) := by decide +kernel
theorem dJ0_charAt_5068e_20 : decode cJ0_charAt_5068e 20 = .ok (.iload_n 1, 1) := by decide +kernel
theorem dJ0_charAt_5068e_21 : decode cJ0_charAt_5068e 21 = .ok (.invokestatic 498, 3) := by decide +kernel
theorem dJ0_charAt_5068e_24 : decode cJ0_charAt_5068e 24 = .ok (.ireturn, 1) := by decide +kernel
theorem dJ0_equals_9ea2d_0 : decode cJ0_equals_9ea2d 0 = .ok (.aload_n 0, 1) := by decide +kernel
theorem dJ0_equals_9ea2d_1 : decode cJ0_equals_9ea2d 1 = .ok (.aload_n 1, 1) := by decide +kernel
theorem dJ0_equals_9ea2d_2 : decode cJ0_equals_9ea2d 2 = .ok (.if_acmp .ne 5, 3) := by decide +kernel
theorem dJ0_equals_9ea2d_5 : decode cJ0_equals_9ea2d 5 = .ok (.iconst 1, 1) := by decide +kernel
theorem dJ0_equals_9ea2d_6 : decode cJ0_equals_9ea2d 6 = .ok (.ireturn, 1) := by decide +kernel
theorem dJ0_equals_9ea2d_7 : decode cJ0_equals_9ea2d 7 = .ok (.aload_n 1, 1) := by decide +kernel
theorem dJ0_equals_9ea2d_8 : decode cJ0_equals_9ea2d 8 = .ok (.instanceof 10, 3) := by decide +kernel
theorem dJ0_equals_9ea2d_11 : decode cJ0_equals_9ea2d 11 = .ok (.ifCond .eq 43, 3) := by decide +kernel
theorem dJ0_equals_9ea2d_14 : decode cJ0_equals_9ea2d 14 = .ok (.aload_n 1, 1) := by decide +kernel
theorem dJ0_equals_9ea2d_15 : decode cJ0_equals_9ea2d 15 = .ok (.checkcast 10, 3) := by decide +kernel
theorem dJ0_equals_9ea2d_18 : decode cJ0_equals_9ea2d 18 = .ok (.astore_n 2, 1) := by decide +kernel
theorem dJ0_equals_9ea2d_19 : decode cJ0_equals_9ea2d 19 = .ok (.getstatic 38, 3) := by decide +kernel
theorem dJ0_equals_9ea2d_22 : decode cJ0_equals_9ea2d 22 = .ok (.ifCond .eq 14, 3) := by decide +kernel
theorem dJ0_equals_9ea2d_25 : decode cJ0_equals_9ea2d 25 = .ok (.aload_n 0, 1) := by decide +kernel
theorem dJ0_equals_9ea2d_26 : decode cJ0_equals_9ea2d 26 = .ok (.getfield 15, 3) := by decide +kernel
theorem dJ0_equals_9ea2d_29 : decode cJ0_equals_9ea2d 29 = .ok (.aload_n 2, 1) := by decide +kernel
theorem dJ0_equals_9ea2d_30 : decode cJ0_equals_9ea2d 30 = .ok (.getfield 15, 3) := by decide +kernel
theorem dJ0_equals_9ea2d_33 : decode cJ0_equals_9ea2d 33 = .ok (.if_icmp .ne 21, 3) := by decide +kernel
theorem dJ0_equals_9ea2d_36 : decode cJ0_equals_9ea2d 36 = .ok (.aload_n 0, 1) := by decide +kernel
theorem dJ0_equals_9ea2d_37 : decode cJ0_equals_9ea2d 37 = .ok (.getfield 9, 3) := by decide +kernel
theorem dJ0_equals_9ea2d_40 : decode cJ0_equals_9ea2d 40 = .ok (.aload_n 2, 1) := by decide +kernel
theorem dJ0_equals_9ea2d_41 : decode cJ0_equals_9ea2d 41 = .ok (.getfield 9, 3) := by decide +kernel
theorem dJ0_equals_9ea2d_44 : decode cJ0_equals_9ea2d 44 = .ok (.invokestatic 541, 3) := by decide +kernel
theorem dJ0_equals_9ea2d_47 : decode cJ0_equals_9ea2d 47 = .ok (.ifCond .eq 7, 3) := by decide +kernel
theorem dJ0_equals_9ea2d_50 : decode cJ0_equals_9ea2d 50 = .ok (.iconst 1, 1) := by decide +kernel
theorem dJ0_equals_9ea2d_51 : decode cJ0_equals_9ea2d 51 = .ok (.goto 4, 3) := by decide +kernel
theorem dJ0_equals_9ea2d_54 : decode cJ0_equals_9ea2d 54 = .ok (.iconst 0, 1) := by decide +kernel
theorem dJ0_equals_9ea2d_55 : decode cJ0_equals_9ea2d 55 = .ok (.ireturn, 1) := by decide +kernel
theorem dJ0_getBytes_840e7_0 : decode cJ0_getBytes_840e7 0 = .ok (.aload_n 0, 1) := by decide +kernel
theorem dJ0_getBytes_840e7_1 : decode cJ0_getBytes_840e7 1 = .ok (.invokevirtual 335, 3) := by decide +kernel
theorem dJ0_getBytes_840e7_4 : decode cJ0_getBytes_840e7 4 = .ok (.iload_n 3, 1) := by decide +kernel
theorem dJ0_getBytes_840e7_5 : decode cJ0_getBytes_840e7 5 = .ok (.if_icmp .ne 23, 3) := by decide +kernel
theorem dJ0_getBytes_840e7_8 : decode cJ0_getBytes_840e7 8 = .ok (.aload_n 0, 1) := by decide +kernel
theorem dJ0_getBytes_840e7_9 : decode cJ0_getBytes_840e7 9 = .ok (.getfield 9, 3) := by decide +kernel
theorem dJ0_getBytes_840e7_12 : decode cJ0_getBytes_840e7 12 = .ok (.iconst 0, 1) := by decide +kernel
theorem dJ0_getBytes_840e7_13 : decode cJ0_getBytes_840e7 13 = .ok (.aload_n 1, 1) := by decide +kernel
theorem dJ0_getBytes_840e7_14 : decode cJ0_getBytes_840e7 14 = .ok (.iload_n 2, 1) := by decide +kernel
theorem dJ0_getBytes_840e7_15 : decode cJ0_getBytes_840e7 15 = .ok (.iload_n 3, 1) := by decide +kernel
theorem dJ0_getBytes_840e7_16 : decode cJ0_getBytes_840e7 16 = .ok (.ishl, 1) := by decide +kernel
theorem dJ0_getBytes_840e7_17 : decode cJ0_getBytes_840e7 17 = .ok (.aload_n 0, 1) := by decide +kernel
theorem dJ0_getBytes_840e7_18 : decode cJ0_getBytes_840e7 18 = .ok (.getfield 9, 3) := by decide +kernel
theorem dJ0_getBytes_840e7_21 : decode cJ0_getBytes_840e7 21 = .ok (.arraylength, 1) := by decide +kernel
theorem dJ0_getBytes_840e7_22 : decode cJ0_getBytes_840e7 22 = .ok (.invokestatic 212, 3) := by decide +kernel
theorem dJ0_getBytes_840e7_25 : decode cJ0_getBytes_840e7 25 = .ok (.goto 18, 3) := by decide +kernel
theorem dJ0_getBytes_840e7_28 : decode cJ0_getBytes_840e7 28 = .ok (.aload_n 0, 1) := by decide +kernel
theorem dJ0_getBytes_840e7_29 : decode cJ0_getBytes_840e7 29 = .ok (.getfield 9, 3) := by decide +kernel
theorem dJ0_getBytes_840e7_32 : decode cJ0_getBytes_840e7 32 = .ok (.iconst 0, 1) := by decide +kernel
theorem dJ0_getBytes_840e7_33 : decode cJ0_getBytes_840e7 33 = .ok (.aload_n 1, 1) := by decide +kernel
theorem dJ0_getBytes_840e7_34 : decode cJ0_getBytes_840e7 34 = .ok (.iload_n 2, 1) := by decide +kernel
theorem dJ0_getBytes_840e7_35 : decode cJ0_getBytes_840e7 35 = .ok (.aload_n 0, 1) := by decide +kernel
theorem dJ0_getBytes_840e7_36 : decode cJ0_getBytes_840e7 36 = .ok (.getfield 9, 3) := by decide +kernel
theorem dJ0_getBytes_840e7_39 : decode cJ0_getBytes_840e7 39 = .ok (.arraylength, 1) := by decide +kernel
theorem dJ0_getBytes_840e7_40 : decode cJ0_getBytes_840e7 40 = .ok (.invokestatic 106, 3) := by decide +kernel
theorem dJ0_getBytes_840e7_43 : decode cJ0_getBytes_840e7 43 = .ok (.return_, 1) := by decide +kernel
theorem dJ0_init_db425_0 : decode cJ0_init_db425 0 = .ok (.aload_n 0, 1) := by decide +kernel
theorem dJ0_init_db425_1 : decode cJ0_init_db425 1 = .ok (.invokespecial 1, 3) := by decide +kernel
theorem dJ0_init_db425_4 : decode cJ0_init_db425 4 = .ok (.aload_n 1, 1) := by decide +kernel
theorem dJ0_init_db425_5 : decode cJ0_init_db425 5 = .ok (.invokevirtual 552, 3) := by decide +kernel
theorem dJ0_init_db425_8 : decode cJ0_init_db425 8 = .ok (.astore_n 3, 1) := by decide +kernel
theorem dJ0_init_db425_9 : decode cJ0_init_db425 9 = .ok (.aload_n 1, 1) := by decide +kernel
theorem dJ0_init_db425_10 : decode cJ0_init_db425 10 = .ok (.invokevirtual 549, 3) := by decide +kernel
theorem dJ0_init_db425_13 : decode cJ0_init_db425 13 = .ok (.istore 4, 2) := by decide +kernel
theorem dJ0_init_db425_15 : decode cJ0_init_db425 15 = .ok (.aload_n 1, 1) := by decide +kernel
theorem dJ0_init_db425_16 : decode cJ0_init_db425 16 = .ok (.invokevirtual 1047, 3) := by decide +kernel
theorem dJ0_init_db425_19 : decode cJ0_init_db425 19 = .ok (.ifCond .eq 22, 3) := by decide +kernel
theorem dJ0_init_db425_22 : decode cJ0_init_db425 22 = .ok (.aload_n 0, 1) := by decide +kernel
theorem dJ0_init_db425_23 : decode cJ0_init_db425 23 = .ok (.iconst 0, 1) := by decide +kernel
theorem dJ0_init_db425_24 : decode cJ0_init_db425 24 = .ok (.putfield 15, 3) := by decide +kernel
theorem dJ0_init_db425_27 : decode cJ0_init_db425 27 = .ok (.aload_n 0, 1) := by decide +kernel
theorem dJ0_init_db425_28 : decode cJ0_init_db425 28 = .ok (.aload_n 3, 1) := by decide +kernel
theorem dJ0_init_db425_29 : decode cJ0_init_db425 29 = .ok (.iconst 0, 1) := by decide +kernel
theorem dJ0_init_db425_30 : decode cJ0_init_db425 30 = .ok (.iload 4, 2) := by decide +kernel
theorem dJ0_init_db425_32 : decode cJ0_init_db425 32 = .ok (.invokestatic 54, 3) := by decide +kernel
theorem dJ0_init_db425_35 : decode cJ0_init_db425 35 = .ok (.putfield 9, 3) := by decide +kernel
theorem dJ0_init_db425_38 : decode cJ0_init_db425 38 = .ok (.goto 59, 3) := by decide +kernel
theorem dJ0_init_db425_41 : decode cJ0_init_db425 41 = .ok (.getstatic 38, 3) := by decide +kernel
theorem dJ0_init_db425_44 : decode cJ0_init_db425 44 = .ok (.ifCond .eq 35, 3) := by decide +kernel
theorem dJ0_init_db425_47 : decode cJ0_init_db425 47 = .ok (.aload_n 1, 1) := by decide +kernel
theorem dJ0_init_db425_48 : decode cJ0_init_db425 48 = .ok (.getfield 1048, 3) := by decide +kernel
theorem dJ0_init_db425_51 : decode cJ0_init_db425 51 = .ok (.ifCond .eq 28, 3) := by decide +kernel
theorem dJ0_init_db425_54 : decode cJ0_init_db425 54 = .ok (.aload_n 0, 1) := by decide +kernel
theorem dJ0_init_db425_55 : decode cJ0_init_db425 55 = .ok (.aload_n 3, 1) := by decide +kernel
theorem dJ0_init_db425_56 : decode cJ0_init_db425 56 = .ok (.iconst 0, 1) := by decide +kernel
theorem dJ0_init_db425_57 : decode cJ0_init_db425 57 = .ok (.iload 4, 2) := by decide +kernel
theorem dJ0_init_db425_59 : decode cJ0_init_db425 59 = .ok (.invokestatic 1051, 3) := by decide +kernel
theorem dJ0_init_db425_62 : decode cJ0_init_db425 62 = .ok (.putfield 9, 3) := by decide +kernel
theorem dJ0_init_db425_65 : decode cJ0_init_db425 65 = .ok (.aload_n 0, 1) := by decide +kernel
theorem dJ0_init_db425_66 : decode cJ0_init_db425 66 = .ok (.aload_n 0, 1) := by decide +kernel
theorem dJ0_init_db425_67 : decode cJ0_init_db425 67 = .ok (.getfield 9, 3) := by decide +kernel
theorem dJ0_init_db425_70 : decode cJ0_init_db425 70 = .ok (.iload 4, 2) := by decide +kernel
theorem dJ0_init_db425_72 : decode cJ0_init_db425 72 = .ok (.invokestatic 47, 3) := by decide +kernel
theorem dJ0_init_db425_75 : decode cJ0_init_db425 75 = .ok (.putfield 15, 3) := by decide +kernel
theorem dJ0_init_db425_78 : decode cJ0_init_db425 78 = .ok (.return_, 1) := by decide +kernel
theorem dJ0_init_db425_79 : decode cJ0_init_db425 79 = .ok (.aload_n 0, 1) := by decide +kernel
theorem dJ0_init_db425_80 : decode cJ0_init_db425 80 = .ok (.iconst 1, 1) := by decide +kernel
theorem dJ0_init_db425_81 : decode cJ0_init_db425 81 = .ok (.putfield 15, 3) := by decide +kernel
theorem dJ0_init_db425_84 : decode cJ0_init_db425 84 = .ok (.aload_n 0, 1) := by decide +kernel
theorem dJ0_init_db425_85 : decode cJ0_init_db425 85 = .ok (.aload_n 3, 1) := by decide +kernel
theorem dJ0_init_db425_86 : decode cJ0_init_db425 86 = .ok (.iconst 0, 1) := by decide +kernel
theorem dJ0_init_db425_87 : decode cJ0_init_db425 87 = .ok (.iload 4, 2) := by decide +kernel
theorem dJ0_init_db425_89 : decode cJ0_init_db425 89 = .ok (.iconst 1, 1) := by decide +kernel
theorem dJ0_init_db425_90 : decode cJ0_init_db425 90 = .ok (.ishl, 1) := by decide +kernel
theorem dJ0_init_db425_91 : decode cJ0_init_db425 91 = .ok (.invokestatic 54, 3) := by decide +kernel
theorem dJ0_init_db425_94 : decode cJ0_init_db425 94 = .ok (.putfield 9, 3) := by decide +kernel
theorem dJ0_init_db425_97 : decode cJ0_init_db425 97 = .ok (.return_, 1) := by decide +kernel
theorem dJ0_coder_7d493_0 : decode cJ0_coder_7d493 0 = .ok (.getstatic 38, 3) := by decide +kernel
theorem dJ0_coder_7d493_3 : decode cJ0_coder_7d493 3 = .ok (.ifCond .eq 10, 3) := by decide +kernel
theorem dJ0_coder_7d493_6 : decode cJ0_coder_7d493 6 = .ok (.aload_n 0, 1) := by decide +kernel
theorem dJ0_coder_7d493_7 : decode cJ0_coder_7d493 7 = .ok (.getfield 15, 3) := by decide +kernel
theorem dJ0_coder_7d493_10 : decode cJ0_coder_7d493 10 = .ok (.goto 4, 3) := by decide +kernel
theorem dJ0_coder_7d493_13 : decode cJ0_coder_7d493 13 = .ok (.iconst 1, 1) := by decide +kernel
theorem dJ0_coder_7d493_14 : decode cJ0_coder_7d493 14 = .ok (.ireturn, 1) := by decide +kernel
theorem dJ0_isLatin1_aae02_0 : decode cJ0_isLatin1_aae02 0 = .ok (.getstatic 38, 3) := by decide +kernel
theorem dJ0_isLatin1_aae02_3 : decode cJ0_isLatin1_aae02 3 = .ok (.ifCond .eq 14, 3) := by decide +kernel
theorem dJ0_isLatin1_aae02_6 : decode cJ0_isLatin1_aae02 6 = .ok (.aload_n 0, 1) := by decide +kernel
theorem dJ0_isLatin1_aae02_7 : decode cJ0_isLatin1_aae02 7 = .ok (.getfield 15, 3) := by decide +kernel
theorem dJ0_isLatin1_aae02_10 : decode cJ0_isLatin1_aae02 10 = .ok (.ifCond .ne 7, 3) := by decide +kernel
theorem dJ0_isLatin1_aae02_13 : decode cJ0_isLatin1_aae02 13 = .ok (.iconst 1, 1) := by decide +kernel
theorem dJ0_isLatin1_aae02_14 : decode cJ0_isLatin1_aae02 14 = .ok (.goto 4, 3) := by decide +kernel
theorem dJ0_isLatin1_aae02_17 : decode cJ0_isLatin1_aae02 17 = .ok (.iconst 0, 1) := by decide +kernel
theorem dJ0_isLatin1_aae02_18 : decode cJ0_isLatin1_aae02 18 = .ok (.ireturn, 1) := by decide +kernel
theorem dJ0_checkIndex_df160_0 : decode cJ0_checkIndex_df160 0 = .ok (.iload_n 0, 1) := by decide +kernel
theorem dJ0_checkIndex_df160_1 : decode cJ0_checkIndex_df160 1 = .ok (.iload_n 1, 1) := by decide +kernel
theorem dJ0_checkIndex_df160_2 : decode cJ0_checkIndex_df160 2 = .ok (.getstatic 1053, 3) := by decide +kernel
theorem dJ0_checkIndex_df160_5 : decode cJ0_checkIndex_df160 5 = .ok (.invokestatic 1059, 3) := by decide +kernel
theorem dJ0_checkIndex_df160_8 : decode cJ0_checkIndex_df160 8 = .ok (.pop, 1) := by decide +kernel
theorem dJ0_checkIndex_df160_9 : decode cJ0_checkIndex_df160 9 = .ok (.return_, 1) := by decide +kernel
theorem dJ4_init_da8c8_0 : decode cJ4_init_da8c8 0 = .ok (.aload_n 0, 1) := by decide +kernel
theorem dJ4_init_da8c8_1 : decode cJ4_init_da8c8 1 = .ok (.bipush 16, 2) := by decide +kernel
theorem dJ4_init_da8c8_3 : decode cJ4_init_da8c8 3 = .ok (.invokespecial 1, 3) := by decide +kernel
theorem dJ4_init_da8c8_6 : decode cJ4_init_da8c8 6 = .ok (.return_, 1) := by decide +kernel
theorem dJ4_append_15ec4_0 : decode cJ4_append_15ec4 0 = .ok (.aload_n 0, 1) := by decide +kernel
theorem dJ4_append_15ec4_1 : decode cJ4_append_15ec4 1 = .ok (.aload_n 1, 1) := by decide +kernel
theorem dJ4_append_15ec4_2 : decode cJ4_append_15ec4 2 = .ok (.invokespecial 29, 3) := by decide +kernel
theorem dJ4_append_15ec4_5 : decode cJ4_append_15ec4 5 = .ok (.pop, 1) := by decide +kernel
theorem dJ4_append_15ec4_6 : decode cJ4_append_15ec4 6 = .ok (.aload_n 0, 1) := by decide +kernel
theorem dJ4_append_15ec4_7 : decode cJ4_append_15ec4 7 = .ok (.areturn, 1) := by decide +kernel
theorem dJ4_append_cf468_0 : decode cJ4_append_cf468 0 = .ok (.aload_n 0, 1) := by decide +kernel
theorem dJ4_append_cf468_1 : decode cJ4_append_cf468 1 = .ok (.iload_n 1, 1) := by decide +kernel
theorem dJ4_append_cf468_2 : decode cJ4_append_cf468 2 = .ok (.invokespecial 50, 3) := by decide +kernel
theorem dJ4_append_cf468_5 : decode cJ4_append_cf468 5 = .ok (.pop, 1) := by decide +kernel
theorem dJ4_append_cf468_6 : decode cJ4_append_cf468 6 = .ok (.aload_n 0, 1) := by decide +kernel
theorem dJ4_append_cf468_7 : decode cJ4_append_cf468 7 = .ok (.areturn, 1) := by decide +kernel
theorem dJ4_append_bf812_0 : decode cJ4_append_bf812 0 = .ok (.aload_n 0, 1) := by decide +kernel
theorem dJ4_append_bf812_1 : decode cJ4_append_bf812 1 = .ok (.iload_n 1, 1) := by decide +kernel
theorem dJ4_append_bf812_2 : decode cJ4_append_bf812 2 = .ok (.invokespecial 53, 3) := by decide +kernel
theorem dJ4_append_bf812_5 : decode cJ4_append_bf812 5 = .ok (.pop, 1) := by decide +kernel
theorem dJ4_append_bf812_6 : decode cJ4_append_bf812 6 = .ok (.aload_n 0, 1) := by decide +kernel
theorem dJ4_append_bf812_7 : decode cJ4_append_bf812 7 = .ok (.areturn, 1) := by decide +kernel
theorem dJ4_toString_0e30d_0 : decode cJ4_toString_0e30d 0 = .ok (.new 18, 3) := by decide +kernel
theorem dJ4_toString_0e30d_3 : decode cJ4_toString_0e30d 3 = .ok (.dup, 1) := by decide +kernel
theorem dJ4_toString_0e30d_4 : decode cJ4_toString_0e30d 4 = .ok (.aload_n 0, 1) := by decide +kernel
theorem dJ4_toString_0e30d_5 : decode cJ4_toString_0e30d 5 = .ok (.invokespecial 137, 3) := by decide +kernel
theorem dJ4_toString_0e30d_8 : decode cJ4_toString_0e30d 8 = .ok (.areturn, 1) := by decide +kernel
theorem dJ4_setLength_d00df_0 : decode cJ4_setLength_d00df 0 = .ok (.aload_n 0, 1) := by decide +kernel
theorem dJ4_setLength_d00df_1 : decode cJ4_setLength_d00df 1 = .ok (.iload_n 1, 1) := by decide +kernel
theorem dJ4_setLength_d00df_2 : decode cJ4_setLength_d00df 2 = .ok (.invokespecial 333, 3) := by decide +kernel
theorem dJ4_setLength_d00df_5 : decode cJ4_setLength_d00df 5 = .ok (.return_, 1) := by decide +kernel
theorem dJ4_length_8abf5_0 : decode cJ4_length_8abf5 0 = .ok (.aload_n 0, 1) := by decide +kernel
theorem dJ4_length_8abf5_1 : decode cJ4_length_8abf5 1 = .ok (.invokespecial 343, 3) := by decide +kernel
theorem dJ4_length_8abf5_4 : decode cJ4_length_8abf5 4 = .ok (.ireturn, 1) := by decide +kernel
theorem dJ1_charAt_3b067_0 : decode cJ1_charAt_3b067 0 = .ok (.iload_n 1, 1) := by decide +kernel
theorem dJ1_charAt_3b067_1 : decode cJ1_charAt_3b067 1 = .ok (.aload_n 0, 1) := by decide +kernel
theorem dJ1_charAt_3b067_2 : decode cJ1_charAt_3b067 2 = .ok (.arraylength, 1) := by decide +kernel
theorem dJ1_charAt_3b067_3 : decode cJ1_charAt_3b067 3 = .ok (.invokestatic 9, 3) := by decide +kernel
theorem dJ1_charAt_3b067_6 : decode cJ1_charAt_3b067 6 = .ok (.aload_n 0, 1) := by decide +kernel
theorem dJ1_charAt_3b067_7 : decode cJ1_charAt_3b067 7 = .ok (.iload_n 1, 1) := by decide +kernel
theorem dJ1_charAt_3b067_8 : decode cJ1_charAt_3b067 8 = .ok (.baload, 1) := by decide +kernel
theorem dJ1_charAt_3b067_9 : decode cJ1_charAt_3b067 9 = .ok (.sipush 255, 3) := by decide +kernel
theorem dJ1_charAt_3b067_12 : decode cJ1_charAt_3b067 12 = .ok (.iand, 1) := by decide +kernel
theorem dJ1_charAt_3b067_13 : decode cJ1_charAt_3b067 13 = .ok (.i2c, 1) := by decide +kernel
theorem dJ1_charAt_3b067_14 : decode cJ1_charAt_3b067 14 = .ok (.ireturn, 1) := by decide +kernel
theorem dJ1_canEncode_fc78d_0 : decode cJ1_canEncode_fc78d 0 = .ok (.iload_n 0, 1) := by decide +kernel
theorem dJ1_canEncode_fc78d_1 : decode cJ1_canEncode_fc78d 1 = .ok (.sipush 255, 3) := by decide +kernel
theorem dJ1_canEncode_fc78d_4 : decode cJ1_canEncode_fc78d 4 = .ok (.if_icmp .gt 7, 3) := by decide +kernel
theorem dJ1_canEncode_fc78d_7 : decode cJ1_canEncode_fc78d 7 = .ok (.iconst 1, 1) := by decide +kernel
theorem dJ1_canEncode_fc78d_8 : decode cJ1_canEncode_fc78d 8 = .ok (.goto 4, 3) := by decide +kernel
theorem dJ1_canEncode_fc78d_11 : decode cJ1_canEncode_fc78d 11 = .ok (.iconst 0, 1) := by decide +kernel
theorem dJ1_canEncode_fc78d_12 : decode cJ1_canEncode_fc78d 12 = .ok (.ireturn, 1) := by decide +kernel
theorem dJ1_equals_b5fdf_0 : decode cJ1_equals_b5fdf 0 = .ok (.aload_n 0, 1) := by decide +kernel
theorem dJ1_equals_b5fdf_1 : decode cJ1_equals_b5fdf 1 = .ok (.arraylength, 1) := by decide +kernel
theorem dJ1_equals_b5fdf_2 : decode cJ1_equals_b5fdf 2 = .ok (.aload_n 1, 1) := by decide +kernel
theorem dJ1_equals_b5fdf_3 : decode cJ1_equals_b5fdf 3 = .ok (.arraylength, 1) := by decide +kernel
theorem dJ1_equals_b5fdf_4 : decode cJ1_equals_b5fdf 4 = .ok (.if_icmp .ne 30, 3) := by decide +kernel
theorem dJ1_equals_b5fdf_7 : decode cJ1_equals_b5fdf 7 = .ok (.iconst 0, 1) := by decide +kernel
theorem dJ1_equals_b5fdf_8 : decode cJ1_equals_b5fdf 8 = .ok (.istore_n 2, 1) := by decide +kernel
theorem dJ1_equals_b5fdf_9 : decode cJ1_equals_b5fdf 9 = .ok (.iload_n 2, 1) := by decide +kernel
theorem dJ1_equals_b5fdf_10 : decode cJ1_equals_b5fdf 10 = .ok (.aload_n 0, 1) := by decide +kernel
theorem dJ1_equals_b5fdf_11 : decode cJ1_equals_b5fdf 11 = .ok (.arraylength, 1) := by decide +kernel
theorem dJ1_equals_b5fdf_12 : decode cJ1_equals_b5fdf 12 = .ok (.if_icmp .ge 20, 3) := by decide +kernel
theorem dJ1_equals_b5fdf_15 : decode cJ1_equals_b5fdf 15 = .ok (.aload_n 0, 1) := by decide +kernel
theorem dJ1_equals_b5fdf_16 : decode cJ1_equals_b5fdf 16 = .ok (.iload_n 2, 1) := by decide +kernel
theorem dJ1_equals_b5fdf_17 : decode cJ1_equals_b5fdf 17 = .ok (.baload, 1) := by decide +kernel
theorem dJ1_equals_b5fdf_18 : decode cJ1_equals_b5fdf 18 = .ok (.aload_n 1, 1) := by decide +kernel
theorem dJ1_equals_b5fdf_19 : decode cJ1_equals_b5fdf 19 = .ok (.iload_n 2, 1) := by decide +kernel
theorem dJ1_equals_b5fdf_20 : decode cJ1_equals_b5fdf 20 = .ok (.baload, 1) := by decide +kernel
theorem dJ1_equals_b5fdf_21 : decode cJ1_equals_b5fdf 21 = .ok (.if_icmp .eq 5, 3) := by decide +kernel
theorem dJ1_equals_b5fdf_24 : decode cJ1_equals_b5fdf 24 = .ok (.iconst 0, 1) := by decide +kernel
theorem dJ1_equals_b5fdf_25 : decode cJ1_equals_b5fdf 25 = .ok (.ireturn, 1) := by decide +kernel
theorem dJ1_equals_b5fdf_26 : decode cJ1_equals_b5fdf 26 = .ok (.iinc 2 1, 3) := by decide +kernel
theorem dJ1_equals_b5fdf_29 : decode cJ1_equals_b5fdf 29 = .ok (.goto (-20), 3) := by decide +kernel
theorem dJ1_equals_b5fdf_32 : decode cJ1_equals_b5fdf 32 = .ok (.iconst 1, 1) := by decide +kernel
theorem dJ1_equals_b5fdf_33 : decode cJ1_equals_b5fdf 33 = .ok (.ireturn, 1) := by decide +kernel
theorem dJ1_equals_b5fdf_34 : decode cJ1_equals_b5fdf 34 = .ok (.iconst 0, 1) := by decide +kernel
theorem dJ1_equals_b5fdf_35 : decode cJ1_equals_b5fdf 35 = .ok (.ireturn, 1) := by decide +kernel
theorem dJ7_copyOf_9075b_0 : decode cJ7_copyOf_9075b 0 = .ok (.iload_n 1, 1) := by decide +kernel
theorem dJ7_copyOf_9075b_1 : decode cJ7_copyOf_9075b 1 = .ok (.aload_n 0, 1) := by decide +kernel
theorem dJ7_copyOf_9075b_2 : decode cJ7_copyOf_9075b 2 = .ok (.arraylength, 1) := by decide +kernel
theorem dJ7_copyOf_9075b_3 : decode cJ7_copyOf_9075b 3 = .ok (.if_icmp .ne 11, 3) := by decide +kernel
theorem dJ7_copyOf_9075b_6 : decode cJ7_copyOf_9075b 6 = .ok (.aload_n 0, 1) := by decide +kernel
theorem dJ7_copyOf_9075b_7 : decode cJ7_copyOf_9075b 7 = .ok (.invokevirtual 310, 3) := by decide +kernel
theorem dJ7_copyOf_9075b_10 : decode cJ7_copyOf_9075b 10 = .ok (.checkcast 311, 3) := by decide +kernel
theorem dJ7_copyOf_9075b_13 : decode cJ7_copyOf_9075b 13 = .ok (.areturn, 1) := by decide +kernel
theorem dJ7_copyOf_9075b_14 : decode cJ7_copyOf_9075b 14 = .ok (.iload_n 1, 1) := by decide +kernel
theorem dJ7_copyOf_9075b_15 : decode cJ7_copyOf_9075b 15 = .ok (.newarray .byte, 2) := by decide +kernel
theorem dJ7_copyOf_9075b_17 : decode cJ7_copyOf_9075b 17 = .ok (.astore_n 2, 1) := by decide +kernel
theorem dJ7_copyOf_9075b_18 : decode cJ7_copyOf_9075b 18 = .ok (.aload_n 0, 1) := by decide +kernel
theorem dJ7_copyOf_9075b_19 : decode cJ7_copyOf_9075b 19 = .ok (.iconst 0, 1) := by decide +kernel
theorem dJ7_copyOf_9075b_20 : decode cJ7_copyOf_9075b 20 = .ok (.aload_n 2, 1) := by decide +kernel
theorem dJ7_copyOf_9075b_21 : decode cJ7_copyOf_9075b 21 = .ok (.iconst 0, 1) := by decide +kernel
theorem dJ7_copyOf_9075b_22 : decode cJ7_copyOf_9075b 22 = .ok (.aload_n 0, 1) := by decide +kernel
theorem dJ7_copyOf_9075b_23 : decode cJ7_copyOf_9075b 23 = .ok (.arraylength, 1) := by decide +kernel
theorem dJ7_copyOf_9075b_24 : decode cJ7_copyOf_9075b 24 = .ok (.iload_n 1, 1) := by decide +kernel
theorem dJ7_copyOf_9075b_25 : decode cJ7_copyOf_9075b 25 = .ok (.invokestatic 304, 3) := by decide +kernel
theorem dJ7_copyOf_9075b_28 : decode cJ7_copyOf_9075b 28 = .ok (.invokestatic 150, 3) := by decide +kernel
theorem dJ7_copyOf_9075b_31 : decode cJ7_copyOf_9075b 31 = .ok (.aload_n 2, 1) := by decide +kernel
theorem dJ7_copyOf_9075b_32 : decode cJ7_copyOf_9075b 32 = .ok (.areturn, 1) := by decide +kernel
theorem dJ7_checkLength_df160_0 : decode cJ7_checkLength_df160 0 = .ok (.iload_n 1, 1) := by decide +kernel
theorem dJ7_checkLength_df160_1 : decode cJ7_checkLength_df160 1 = .ok (.iload_n 0, 1) := by decide +kernel
theorem dJ7_checkLength_df160_2 : decode cJ7_checkLength_df160 2 = .ok (.if_icmp .ge 35, 3) := by decide +kernel
theorem dJ7_checkLength_df160_5 : decode cJ7_checkLength_df160 5 = .ok (.new 43, 3) := by decide +kernel
theorem dJ7_checkLength_df160_8 : decode cJ7_checkLength_df160 8 = .ok (.dup, 1) := by decide +kernel
theorem dJ7_checkLength_df160_9 : decode cJ7_checkLength_df160 9 = .ok (.new 45, 3) := by decide +kernel
theorem dJ7_checkLength_df160_12 : decode cJ7_checkLength_df160 12 = .ok (.dup, 1) := by decide +kernel
theorem dJ7_checkLength_df160_13 : decode cJ7_checkLength_df160 13 = .ok (.invokespecial 47, 3) := by decide +kernel
theorem dJ7_checkLength_df160_16 : decode cJ7_checkLength_df160 16 = .ok (.iload_n 0, 1) := by decide +kernel
theorem dJ7_checkLength_df160_17 : decode cJ7_checkLength_df160 17 = .ok (.invokevirtual 54, 3) := by decide +kernel
theorem dJ7_checkLength_df160_20 : decode cJ7_checkLength_df160 20 = .ok (.ldc_w 337, 3) := by decide +kernel
theorem dJ7_checkLength_df160_23 : decode cJ7_checkLength_df160 23 = .ok (.invokevirtual 50, 3) := by decide +kernel
theorem dJ7_checkLength_df160_26 : decode cJ7_checkLength_df160 26 = .ok (.iload_n 1, 1) := by decide +kernel
theorem dJ7_checkLength_df160_27 : decode cJ7_checkLength_df160 27 = .ok (.invokevirtual 54, 3) := by decide +kernel
theorem dJ7_checkLength_df160_30 : decode cJ7_checkLength_df160 30 = .ok (.invokevirtual 61, 3) := by decide +kernel
theorem dJ7_checkLength_df160_33 : decode cJ7_checkLength_df160 33 = .ok (.invokespecial 65, 3) := by decide +kernel
theorem dJ7_checkLength_df160_36 : decode cJ7_checkLength_df160 36 = .ok (.athrow, 1) := by decide +kernel
theorem dJ7_checkLength_df160_37 : decode cJ7_checkLength_df160 37 = .ok (.return_, 1) := by decide +kernel
theorem dJ7_copyOfRange_39247_0 : decode cJ7_copyOfRange_39247 0 = .ok (.iload_n 1, 1) := by decide +kernel
theorem dJ7_copyOfRange_39247_1 : decode cJ7_copyOfRange_39247 1 = .ok (.ifCond .ne 9, 3) := by decide +kernel
theorem dJ7_copyOfRange_39247_4 : decode cJ7_copyOfRange_39247 4 = .ok (.iload_n 2, 1) := by decide +kernel
theorem dJ7_copyOfRange_39247_5 : decode cJ7_copyOfRange_39247 5 = .ok (.aload_n 0, 1) := by decide +kernel
theorem dJ7_copyOfRange_39247_6 : decode cJ7_copyOfRange_39247 6 = .ok (.arraylength, 1) := by decide +kernel
theorem dJ7_copyOfRange_39247_7 : decode cJ7_copyOfRange_39247 7 = .ok (.if_icmp .eq 10, 3) := by decide +kernel
theorem dJ7_copyOfRange_39247_10 : decode cJ7_copyOfRange_39247 10 = .ok (.aload_n 0, 1) := by decide +kernel
theorem dJ7_copyOfRange_39247_11 : decode cJ7_copyOfRange_39247 11 = .ok (.iload_n 1, 1) := by decide +kernel
theorem dJ7_copyOfRange_39247_12 : decode cJ7_copyOfRange_39247 12 = .ok (.iload_n 2, 1) := by decide +kernel
theorem dJ7_copyOfRange_39247_13 : decode cJ7_copyOfRange_39247 13 = .ok (.invokestatic 339, 3) := by decide +kernel
theorem dJ7_copyOfRange_39247_16 : decode cJ7_copyOfRange_39247 16 = .ok (.areturn, 1) := by decide +kernel
theorem dJ7_copyOfRange_39247_17 : decode cJ7_copyOfRange_39247 17 = .ok (.aload_n 0, 1) := by decide +kernel
theorem dJ7_copyOfRange_39247_18 : decode cJ7_copyOfRange_39247 18 = .ok (.invokevirtual 310, 3) := by decide +kernel
theorem dJ7_copyOfRange_39247_21 : decode cJ7_copyOfRange_39247 21 = .ok (.checkcast 311, 3) := by decide +kernel
theorem dJ7_copyOfRange_39247_24 : decode cJ7_copyOfRange_39247 24 = .ok (.areturn, 1) := by decide +kernel
theorem dJ7_copyOfRangeByte_39247_0 : decode cJ7_copyOfRangeByte_39247 0 = .ok (.iload_n 1, 1) := by decide +kernel
theorem dJ7_copyOfRangeByte_39247_1 : decode cJ7_copyOfRangeByte_39247 1 = .ok (.iload_n 2, 1) := by decide +kernel
theorem dJ7_copyOfRangeByte_39247_2 : decode cJ7_copyOfRangeByte_39247 2 = .ok (.invokestatic 343, 3) := by decide +kernel
theorem dJ7_copyOfRangeByte_39247_5 : decode cJ7_copyOfRangeByte_39247 5 = .ok (.iload_n 2, 1) := by decide +kernel
theorem dJ7_copyOfRangeByte_39247_6 : decode cJ7_copyOfRangeByte_39247 6 = .ok (.iload_n 1, 1) := by decide +kernel
theorem dJ7_copyOfRangeByte_39247_7 : decode cJ7_copyOfRangeByte_39247 7 = .ok (.isub, 1) := by decide +kernel
theorem dJ7_copyOfRangeByte_39247_8 : decode cJ7_copyOfRangeByte_39247 8 = .ok (.istore_n 3, 1) := by decide +kernel
theorem dJ7_copyOfRangeByte_39247_9 : decode cJ7_copyOfRangeByte_39247 9 = .ok (.iload_n 3, 1) := by decide +kernel
theorem dJ7_copyOfRangeByte_39247_10 : decode cJ7_copyOfRangeByte_39247 10 = .ok (.newarray .byte, 2) := by decide +kernel
theorem dJ7_copyOfRangeByte_39247_12 : decode cJ7_copyOfRangeByte_39247 12 = .ok (.astore 4, 2) := by decide +kernel
theorem dJ7_copyOfRangeByte_39247_14 : decode cJ7_copyOfRangeByte_39247 14 = .ok (.aload_n 0, 1) := by decide +kernel
theorem dJ7_copyOfRangeByte_39247_15 : decode cJ7_copyOfRangeByte_39247 15 = .ok (.iload_n 1, 1) := by decide +kernel
theorem dJ7_copyOfRangeByte_39247_16 : decode cJ7_copyOfRangeByte_39247 16 = .ok (.aload 4, 2) := by decide +kernel
theorem dJ7_copyOfRangeByte_39247_18 : decode cJ7_copyOfRangeByte_39247 18 = .ok (.iconst 0, 1) := by decide +kernel
theorem dJ7_copyOfRangeByte_39247_19 : decode cJ7_copyOfRangeByte_39247 19 = .ok (.aload_n 0, 1) := by decide +kernel
theorem dJ7_copyOfRangeByte_39247_20 : decode cJ7_copyOfRangeByte_39247 20 = .ok (.arraylength, 1) := by decide +kernel
theorem dJ7_copyOfRangeByte_39247_21 : decode cJ7_copyOfRangeByte_39247 21 = .ok (.iload_n 1, 1) := by decide +kernel
theorem dJ7_copyOfRangeByte_39247_22 : decode cJ7_copyOfRangeByte_39247 22 = .ok (.isub, 1) := by decide +kernel
theorem dJ7_copyOfRangeByte_39247_23 : decode cJ7_copyOfRangeByte_39247 23 = .ok (.iload_n 3, 1) := by decide +kernel
theorem dJ7_copyOfRangeByte_39247_24 : decode cJ7_copyOfRangeByte_39247 24 = .ok (.invokestatic 304, 3) := by decide +kernel
theorem dJ7_copyOfRangeByte_39247_27 : decode cJ7_copyOfRangeByte_39247 27 = .ok (.invokestatic 150, 3) := by decide +kernel
theorem dJ7_copyOfRangeByte_39247_30 : decode cJ7_copyOfRangeByte_39247 30 = .ok (.aload 4, 2) := by decide +kernel
theorem dJ7_copyOfRangeByte_39247_32 : decode cJ7_copyOfRangeByte_39247 32 = .ok (.areturn, 1) := by decide +kernel
theorem dJ8_newLength_cabcc_0 : decode cJ8_newLength_cabcc 0 = .ok (.iload_n 0, 1) := by decide +kernel
theorem dJ8_newLength_cabcc_1 : decode cJ8_newLength_cabcc 1 = .ok (.iload_n 1, 1) := by decide +kernel
theorem dJ8_newLength_cabcc_2 : decode cJ8_newLength_cabcc 2 = .ok (.iload_n 2, 1) := by decide +kernel
theorem dJ8_newLength_cabcc_3 : decode cJ8_newLength_cabcc 3 = .ok (.invokestatic 194, 3) := by decide +kernel
theorem dJ8_newLength_cabcc_6 : decode cJ8_newLength_cabcc 6 = .ok (.iadd, 1) := by decide +kernel
theorem dJ8_newLength_cabcc_7 : decode cJ8_newLength_cabcc 7 = .ok (.istore_n 3, 1) := by decide +kernel
theorem dJ8_newLength_cabcc_8 : decode cJ8_newLength_cabcc 8 = .ok (.iconst 0, 1) := by decide +kernel
theorem dJ8_newLength_cabcc_9 : decode cJ8_newLength_cabcc 9 = .ok (.iload_n 3, 1) := by decide +kernel
theorem dJ8_newLength_cabcc_10 : decode cJ8_newLength_cabcc 10 = .ok (.if_icmp .ge 11, 3) := by decide +kernel
theorem dJ8_newLength_cabcc_13 : decode cJ8_newLength_cabcc 13 = .ok (.iload_n 3, 1) := by decide +kernel
theorem dJ8_newLength_cabcc_14 : decode cJ8_newLength_cabcc 14 = .ok (.ldc 200, 2) := by decide +kernel
theorem dJ8_newLength_cabcc_16 : decode cJ8_newLength_cabcc 16 = .ok (.if_icmp .gt 5, 3) := by decide +kernel
theorem dJ8_newLength_cabcc_19 : decode cJ8_newLength_cabcc 19 = .ok (.iload_n 3, 1) := by decide +kernel
theorem dJ8_newLength_cabcc_20 : decode cJ8_newLength_cabcc 20 = .ok (.ireturn, 1) := by decide +kernel
theorem dJ8_newLength_cabcc_21 : decode cJ8_newLength_cabcc 21 = .ok (.iload_n 0, 1) := by decide +kernel
theorem dJ8_newLength_cabcc_22 : decode cJ8_newLength_cabcc 22 = .ok (.iload_n 1, 1) := by decide +kernel
theorem dJ8_newLength_cabcc_23 : decode cJ8_newLength_cabcc 23 = .ok (.invokestatic 201, 3) := by decide +kernel
theorem dJ8_newLength_cabcc_26 : decode cJ8_newLength_cabcc 26 = .ok (.ireturn, 1) := by decide +kernel
theorem dJ3_checkIndex_8e157_0 : decode cJ3_checkIndex_8e157 0 = .ok (.iload_n 0, 1) := by decide +kernel
theorem dJ3_checkIndex_8e157_1 : decode cJ3_checkIndex_8e157 1 = .ok (.ifCond .lt 8, 3) := by decide +kernel
theorem dJ3_checkIndex_8e157_4 : decode cJ3_checkIndex_8e157 4 = .ok (.iload_n 0, 1) := by decide +kernel
theorem dJ3_checkIndex_8e157_5 : decode cJ3_checkIndex_8e157 5 = .ok (.iload_n 1, 1) := by decide +kernel
theorem dJ3_checkIndex_8e157_6 : decode cJ3_checkIndex_8e157 6 = .ok (.if_icmp .lt 10, 3) := by decide +kernel
theorem dJ3_checkIndex_8e157_9 : decode cJ3_checkIndex_8e157 9 = .ok (.aload_n 2, 1) := by decide +kernel
theorem dJ3_checkIndex_8e157_10 : decode cJ3_checkIndex_8e157 10 = .ok (.iload_n 0, 1) := by decide +kernel
theorem dJ3_checkIndex_8e157_11 : decode cJ3_checkIndex_8e157 11 = .ok (.iload_n 1, 1) := by decide +kernel
theorem dJ3_checkIndex_8e157_12 : decode cJ3_checkIndex_8e157 12 = .ok (.invokestatic 95, 3) := by decide +kernel
theorem dJ3_checkIndex_8e157_15 : decode cJ3_checkIndex_8e157 15 = .ok (.athrow, 1) := by decide +kernel
theorem dJ3_checkIndex_8e157_16 : decode cJ3_checkIndex_8e157 16 = .ok (.iload_n 0, 1) := by decide +kernel
theorem dJ3_checkIndex_8e157_17 : decode cJ3_checkIndex_8e157 17 = .ok (.ireturn, 1) := by decide +kernel
