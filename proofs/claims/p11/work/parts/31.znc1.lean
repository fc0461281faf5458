theorem dX4_add_33 : decode cX4_add 33 = .ok (.if_icmp .ge 66, 3) := by decide +kernel
theorem dX4_add_36 : decode cX4_add 36 = .ok (.aload_n 0, 1) := by decide +kernel
theorem dX4_add_37 : decode cX4_add 37 = .ok (.getfield 42, 3) := by decide +kernel
theorem dX4_add_40 : decode cX4_add 40 = .ok (.aload_n 0, 1) := by decide +kernel
theorem dX4_add_41 : decode cX4_add 41 = .ok (.getfield 27, 3) := by decide +kernel
theorem dX4_add_44 : decode cX4_add 44 = .ok (.arraylength, 1) := by decide +kernel
theorem dX4_add_45 : decode cX4_add 45 = .ok (.if_icmp .ge 54, 3) := by decide +kernel
theorem dX4_add_48 : decode cX4_add 48 = .ok (.aload_n 0, 1) := by decide +kernel
theorem dX4_add_49 : decode cX4_add 49 = .ok (.getfield 15, 3) := by decide +kernel
theorem dX4_add_52 : decode cX4_add 52 = .ok (.aload_n 0, 1) := by decide +kernel
theorem dX4_add_53 : decode cX4_add 53 = .ok (.getfield 42, 3) := by decide +kernel
theorem dX4_add_56 : decode cX4_add 56 = .ok (.iload_n 1, 1) := by decide +kernel
theorem dX4_add_57 : decode cX4_add 57 = .ok (.iastore, 1) := by decide +kernel
theorem dX4_add_58 : decode cX4_add 58 = .ok (.aload_n 0, 1) := by decide +kernel
theorem dX4_add_59 : decode cX4_add 59 = .ok (.getfield 19, 3) := by decide +kernel
theorem dX4_add_62 : decode cX4_add 62 = .ok (.aload_n 0, 1) := by decide +kernel
theorem dX4_add_63 : decode cX4_add 63 = .ok (.getfield 42, 3) := by decide +kernel
theorem dX4_add_66 : decode cX4_add 66 = .ok (.iload_n 2, 1) := by decide +kernel
theorem dX4_add_67 : decode cX4_add 67 = .ok (.iastore, 1) := by decide +kernel
theorem dX4_add_68 : decode cX4_add 68 = .ok (.aload_n 0, 1) := by decide +kernel
theorem dX4_add_69 : decode cX4_add 69 = .ok (.getfield 22, 3) := by decide +kernel
theorem dX4_add_72 : decode cX4_add 72 = .ok (.aload_n 0, 1) := by decide +kernel
theorem dX4_add_73 : decode cX4_add 73 = .ok (.getfield 42, 3) := by decide +kernel
theorem dX4_add_76 : decode cX4_add 76 = .ok (.iload_n 3, 1) := by decide +kernel
theorem dX4_add_77 : decode cX4_add 77 = .ok (.iastore, 1) := by decide +kernel
theorem dX4_add_78 : decode cX4_add 78 = .ok (.aload_n 0, 1) := by decide +kernel
theorem dX4_add_79 : decode cX4_add 79 = .ok (.getfield 27, 3) := by decide +kernel
theorem dX4_add_82 : decode cX4_add 82 = .ok (.aload_n 0, 1) := by decide +kernel
theorem dX4_add_83 : decode cX4_add 83 = .ok (.getfield 42, 3) := by decide +kernel
theorem dX4_add_86 : decode cX4_add 86 = .ok (.aload 4, 2) := by decide +kernel
theorem dX4_add_88 : decode cX4_add 88 = .ok (.aastore, 1) := by decide +kernel
theorem dX4_add_89 : decode cX4_add 89 = .ok (.aload_n 0, 1) := by decide +kernel
theorem dX4_add_90 : decode cX4_add 90 = .ok (.dup, 1) := by decide +kernel
theorem dX4_add_91 : decode cX4_add 91 = .ok (.getfield 42, 3) := by decide +kernel
theorem dX4_add_94 : decode cX4_add 94 = .ok (.iconst 1, 1) := by decide +kernel
theorem dX4_add_95 : decode cX4_add 95 = .ok (.iadd, 1) := by decide +kernel
theorem dX4_add_96 : decode cX4_add 96 = .ok (.putfield 42, 3) := by decide +kernel
theorem dX4_add_99 : decode cX4_add 99 = .ok (.return_, 1) := by decide +kernel
theorem dX4_peek_0 : decode cX4_peek 0 = .ok (.iload_n 1, 1) := by decide +kernel
theorem dX4_peek_1 : decode cX4_peek 1 = .ok (.ifCond .lt 29, 3) := by decide +kernel
theorem dX4_peek_4 : decode cX4_peek 4 = .ok (.iload_n 1, 1) := by decide +kernel
theorem dX4_peek_5 : decode cX4_peek 5 = .ok (.aload_n 0, 1) := by decide +kernel
theorem dX4_peek_6 : decode cX4_peek 6 = .ok (.getfield 38, 3) := by decide +kernel
theorem dX4_peek_9 : decode cX4_peek 9 = .ok (.if_icmp .ge 21, 3) := by decide +kernel
theorem dX4_peek_12 : decode cX4_peek 12 = .ok (.iload_n 1, 1) := by decide +kernel
theorem dX4_peek_13 : decode cX4_peek 13 = .ok (.aload_n 0, 1) := by decide +kernel
theorem dX4_peek_14 : decode cX4_peek 14 = .ok (.getfield 9, 3) := by decide +kernel
theorem dX4_peek_17 : decode cX4_peek 17 = .ok (.arraylength, 1) := by decide +kernel
theorem dX4_peek_18 : decode cX4_peek 18 = .ok (.if_icmp .ge 12, 3) := by decide +kernel
theorem dX4_peek_21 : decode cX4_peek 21 = .ok (.aload_n 0, 1) := by decide +kernel
theorem dX4_peek_22 : decode cX4_peek 22 = .ok (.getfield 9, 3) := by decide +kernel
theorem dX4_peek_25 : decode cX4_peek 25 = .ok (.iload_n 1, 1) := by decide +kernel
theorem dX4_peek_26 : decode cX4_peek 26 = .ok (.caload, 1) := by decide +kernel
theorem dX4_peek_27 : decode cX4_peek 27 = .ok (.goto 4, 3) := by decide +kernel
theorem dX4_peek_30 : decode cX4_peek 30 = .ok (.iconst 0, 1) := by decide +kernel
theorem dX4_peek_31 : decode cX4_peek 31 = .ok (.ireturn, 1) := by decide +kernel
theorem dX4_isDigit_0 : decode cX4_isDigit 0 = .ok (.iload_n 0, 1) := by decide +kernel
theorem dX4_isDigit_1 : decode cX4_isDigit 1 = .ok (.bipush 48, 2) := by decide +kernel
theorem dX4_isDigit_3 : decode cX4_isDigit 3 = .ok (.if_icmp .lt 13, 3) := by decide +kernel
theorem dX4_isDigit_6 : decode cX4_isDigit 6 = .ok (.iload_n 0, 1) := by decide +kernel
theorem dX4_isDigit_7 : decode cX4_isDigit 7 = .ok (.bipush 57, 2) := by decide +kernel
theorem dX4_isDigit_9 : decode cX4_isDigit 9 = .ok (.if_icmp .gt 7, 3) := by decide +kernel
theorem dX4_isDigit_12 : decode cX4_isDigit 12 = .ok (.iconst 1, 1) := by decide +kernel
theorem dX4_isDigit_13 : decode cX4_isDigit 13 = .ok (.goto 4, 3) := by decide +kernel
theorem dX4_isDigit_16 : decode cX4_isDigit 16 = .ok (.iconst 0, 1) := by decide +kernel
theorem dX4_isDigit_17 : decode cX4_isDigit 17 = .ok (.ireturn, 1) := by decide +kernel
theorem dX4_isLowerCase_0 : decode cX4_isLowerCase 0 = .ok (.iload_n 0, 1) := by decide +kernel
theorem dX4_isLowerCase_1 : decode cX4_isLowerCase 1 = .ok (.bipush 97, 2) := by decide +kernel
theorem dX4_isLowerCase_3 : decode cX4_isLowerCase 3 = .ok (.if_icmp .lt 13, 3) := by decide +kernel
theorem dX4_isLowerCase_6 : decode cX4_isLowerCase 6 = .ok (.iload_n 0, 1) := by decide +kernel
theorem dX4_isLowerCase_7 : decode cX4_isLowerCase 7 = .ok (.bipush 122, 2) := by decide +kernel
theorem dX4_isLowerCase_9 : decode cX4_isLowerCase 9 = .ok (.if_icmp .gt 7, 3) := by decide +kernel
theorem dX4_isLowerCase_12 : decode cX4_isLowerCase 12 = .ok (.iconst 1, 1) := by decide +kernel
theorem dX4_isLowerCase_13 : decode cX4_isLowerCase 13 = .ok (.goto 4, 3) := by decide +kernel
theorem dX4_isLowerCase_16 : decode cX4_isLowerCase 16 = .ok (.iconst 0, 1) := by decide +kernel
theorem dX4_isLowerCase_17 : decode cX4_isLowerCase 17 = .ok (.ireturn, 1) := by decide +kernel
theorem dX4_isPair_0 : decode cX4_isPair 0 = .ok (.iload_n 0, 1) := by decide +kernel
theorem dX4_isPair_1 : decode cX4_isPair 1 = .ok (.lookupswitch 77 #[(8509, 75), (9766, 75), (15421, 75), (15677, 75), (15933, 75), (16174, 75), (16186, 75), (31868, 75)], 75) := by decide +kernel
theorem dX4_isPair_76 : decode cX4_isPair 76 = .ok (.iconst 1, 1) := by decide +kernel
theorem dX4_isPair_77 : decode cX4_isPair 77 = .ok (.ireturn, 1) := by decide +kernel
theorem dX4_isPair_78 : decode cX4_isPair 78 = .ok (.iconst 0, 1) := by decide +kernel
theorem dX4_isPair_79 : decode cX4_isPair 79 = .ok (.ireturn, 1) := by decide +kernel
theorem dX4_isSingle_0 : decode cX4_isSingle 0 = .ok (.iload_n 0, 1) := by decide +kernel
theorem dX4_isSingle_1 : decode cX4_isSingle 1 = .ok (.tableswitch 141 33 63 #[139, 141, 139, 141, 139, 141, 141, 139, 139, 139, 139, 139, 139, 139, 139, 141, 141, 141, 141, 141, 141, 141, 141, 141, 141, 139, 141, 139, 139, 139, 139], 139) := by decide +kernel
theorem dX4_isSingle_140 : decode cX4_isSingle 140 = .ok (.iconst 1, 1) := by decide +kernel
theorem dX4_isSingle_141 : decode cX4_isSingle 141 = .ok (.ireturn, 1) := by decide +kernel
theorem dX4_isSingle_142 : decode cX4_isSingle 142 = .ok (.iconst 0, 1) := by decide +kernel
theorem dX4_isSingle_143 : decode cX4_isSingle 143 = .ok (.ireturn, 1) := by decide +kernel
theorem dX5_init_0 : decode cX5_init 0 = .ok (.aload_n 0, 1) := by decide +kernel
theorem dX5_init_1 : decode cX5_init 1 = .ok (.invokespecial 1, 3) := by decide +kernel
theorem dX5_init_4 : decode cX5_init 4 = .ok (.aload_n 0, 1) := by decide +kernel
theorem dX5_init_5 : decode cX5_init 5 = .ok (.iload_n 1, 1) := by decide +kernel
theorem dX5_init_6 : decode cX5_init 6 = .ok (.putfield 7, 3) := by decide +kernel
theorem dX5_init_9 : decode cX5_init 9 = .ok (.aload_n 0, 1) := by decide +kernel
theorem dX5_init_10 : decode cX5_init 10 = .ok (.iload_n 2, 1) := by decide +kernel
theorem dX5_init_11 : decode cX5_init 11 = .ok (.putfield 13, 3) := by decide +kernel
theorem dX5_init_14 : decode cX5_init 14 = .ok (.aload_n 0, 1) := by decide +kernel
theorem dX5_init_15 : decode cX5_init 15 = .ok (.aload_n 3, 1) := by decide +kernel
theorem dX5_init_16 : decode cX5_init 16 = .ok (.putfield 16, 3) := by decide +kernel
theorem dX5_init_19 : decode cX5_init 19 = .ok (.aload_n 0, 1) := by decide +kernel
theorem dX5_init_20 : decode cX5_init 20 = .ok (.aload 4, 2) := by decide +kernel
theorem dX5_init_22 : decode cX5_init 22 = .ok (.putfield 20, 3) := by decide +kernel
theorem dX5_init_25 : decode cX5_init 25 = .ok (.aload_n 0, 1) := by decide +kernel
theorem dX5_init_26 : decode cX5_init 26 = .ok (.aload 5, 2) := by decide +kernel
theorem dX5_init_28 : decode cX5_init 28 = .ok (.putfield 24, 3) := by decide +kernel
theorem dX5_init_31 : decode cX5_init 31 = .ok (.aload_n 0, 1) := by decide +kernel
theorem dX5_init_32 : decode cX5_init 32 = .ok (.aload 6, 2) := by decide +kernel
theorem dX5_init_34 : decode cX5_init 34 = .ok (.putfield 27, 3) := by decide +kernel
theorem dX5_init_37 : decode cX5_init 37 = .ok (.return_, 1) := by decide +kernel
theorem dX5_ofLiteral_0 : decode cX5_ofLiteral 0 = .ok (.new 8, 3) := by decide +kernel
theorem dX5_ofLiteral_3 : decode cX5_ofLiteral 3 = .ok (.dup, 1) := by decide +kernel
theorem dX5_ofLiteral_4 : decode cX5_ofLiteral 4 = .ok (.iconst 1, 1) := by decide +kernel
theorem dX5_ofLiteral_5 : decode cX5_ofLiteral 5 = .ok (.iconst 0, 1) := by decide +kernel
theorem dX5_ofLiteral_6 : decode cX5_ofLiteral 6 = .ok (.aload_n 0, 1) := by decide +kernel
theorem dX5_ofLiteral_7 : decode cX5_ofLiteral 7 = .ok (.aconst_null, 1) := by decide +kernel
theorem dX5_ofLiteral_8 : decode cX5_ofLiteral 8 = .ok (.aconst_null, 1) := by decide +kernel
theorem dX5_ofLiteral_9 : decode cX5_ofLiteral 9 = .ok (.aconst_null, 1) := by decide +kernel
theorem dX5_ofLiteral_10 : decode cX5_ofLiteral 10 = .ok (.invokespecial 30, 3) := by decide +kernel
theorem dX5_ofLiteral_13 : decode cX5_ofLiteral 13 = .ok (.areturn, 1) := by decide +kernel
theorem dX5_ofRoot_0 : decode cX5_ofRoot 0 = .ok (.new 8, 3) := by decide +kernel
theorem dX5_ofRoot_3 : decode cX5_ofRoot 3 = .ok (.dup, 1) := by decide +kernel
theorem dX5_ofRoot_4 : decode cX5_ofRoot 4 = .ok (.iconst 2, 1) := by decide +kernel
theorem dX5_ofRoot_5 : decode cX5_ofRoot 5 = .ok (.iconst 0, 1) := by decide +kernel
theorem dX5_ofRoot_6 : decode cX5_ofRoot 6 = .ok (.aconst_null, 1) := by decide +kernel
theorem dX5_ofRoot_7 : decode cX5_ofRoot 7 = .ok (.aconst_null, 1) := by decide +kernel
theorem dX5_ofRoot_8 : decode cX5_ofRoot 8 = .ok (.aconst_null, 1) := by decide +kernel
theorem dX5_ofRoot_9 : decode cX5_ofRoot 9 = .ok (.aconst_null, 1) := by decide +kernel
theorem dX5_ofRoot_10 : decode cX5_ofRoot 10 = .ok (.invokespecial 30, 3) := by decide +kernel
theorem dX5_ofRoot_13 : decode cX5_ofRoot 13 = .ok (.areturn, 1) := by decide +kernel
theorem dX5_ofVariable_0 : decode cX5_ofVariable 0 = .ok (.new 8, 3) := by decide +kernel
theorem dX5_ofVariable_3 : decode cX5_ofVariable 3 = .ok (.dup, 1) := by decide +kernel
theorem dX5_ofVariable_4 : decode cX5_ofVariable 4 = .ok (.iconst 3, 1) := by decide +kernel
theorem dX5_ofVariable_5 : decode cX5_ofVariable 5 = .ok (.iload_n 0, 1) := by decide +kernel
theorem dX5_ofVariable_6 : decode cX5_ofVariable 6 = .ok (.aconst_null, 1) := by decide +kernel
theorem dX5_ofVariable_7 : decode cX5_ofVariable 7 = .ok (.aconst_null, 1) := by decide +kernel
theorem dX5_ofVariable_8 : decode cX5_ofVariable 8 = .ok (.aconst_null, 1) := by decide +kernel
theorem dX5_ofVariable_9 : decode cX5_ofVariable 9 = .ok (.aconst_null, 1) := by decide +kernel
theorem dX5_ofVariable_10 : decode cX5_ofVariable 10 = .ok (.invokespecial 30, 3) := by decide +kernel
theorem dX5_ofVariable_13 : decode cX5_ofVariable 13 = .ok (.areturn, 1) := by decide +kernel
theorem dX5_ofProperty_0 : decode cX5_ofProperty 0 = .ok (.new 8, 3) := by decide +kernel
theorem dX5_ofProperty_3 : decode cX5_ofProperty 3 = .ok (.dup, 1) := by decide +kernel
theorem dX5_ofProperty_4 : decode cX5_ofProperty 4 = .ok (.iconst 4, 1) := by decide +kernel
theorem dX5_ofProperty_5 : decode cX5_ofProperty 5 = .ok (.iload_n 1, 1) := by decide +kernel
theorem dX5_ofProperty_6 : decode cX5_ofProperty 6 = .ok (.aconst_null, 1) := by decide +kernel
theorem dX5_ofProperty_7 : decode cX5_ofProperty 7 = .ok (.aload_n 0, 1) := by decide +kernel
theorem dX5_ofProperty_8 : decode cX5_ofProperty 8 = .ok (.aconst_null, 1) := by decide +kernel
theorem dX5_ofProperty_9 : decode cX5_ofProperty 9 = .ok (.aconst_null, 1) := by decide +kernel
theorem dX5_ofProperty_10 : decode cX5_ofProperty 10 = .ok (.invokespecial 30, 3) := by decide +kernel
theorem dX5_ofProperty_13 : decode cX5_ofProperty 13 = .ok (.areturn, 1) := by decide +kernel
theorem dX5_ofCall_0 : decode cX5_ofCall 0 = .ok (.new 8, 3) := by decide +kernel
theorem dX5_ofCall_3 : decode cX5_ofCall 3 = .ok (.dup, 1) := by decide +kernel
theorem dX5_ofCall_4 : decode cX5_ofCall 4 = .ok (.iconst 5, 1) := by decide +kernel
theorem dX5_ofCall_5 : decode cX5_ofCall 5 = .ok (.iload_n 1, 1) := by decide +kernel
theorem dX5_ofCall_6 : decode cX5_ofCall 6 = .ok (.aconst_null, 1) := by decide +kernel
theorem dX5_ofCall_7 : decode cX5_ofCall 7 = .ok (.aload_n 0, 1) := by decide +kernel
theorem dX5_ofCall_8 : decode cX5_ofCall 8 = .ok (.aload_n 2, 1) := by decide +kernel
theorem dX5_ofCall_9 : decode cX5_ofCall 9 = .ok (.aload_n 3, 1) := by decide +kernel
theorem dX5_ofCall_10 : decode cX5_ofCall 10 = .ok (.invokespecial 30, 3) := by decide +kernel
theorem dX5_ofCall_13 : decode cX5_ofCall 13 = .ok (.areturn, 1) := by decide +kernel
theorem dX5_ofOperator_0 : decode cX5_ofOperator 0 = .ok (.new 8, 3) := by decide +kernel
theorem dX5_ofOperator_3 : decode cX5_ofOperator 3 = .ok (.dup, 1) := by decide +kernel
theorem dX5_ofOperator_4 : decode cX5_ofOperator 4 = .ok (.iload_n 0, 1) := by decide +kernel
theorem dX5_ofOperator_5 : decode cX5_ofOperator 5 = .ok (.iconst 0, 1) := by decide +kernel
theorem dX5_ofOperator_6 : decode cX5_ofOperator 6 = .ok (.aconst_null, 1) := by decide +kernel
theorem dX5_ofOperator_7 : decode cX5_ofOperator 7 = .ok (.aload_n 1, 1) := by decide +kernel
theorem dX5_ofOperator_8 : decode cX5_ofOperator 8 = .ok (.aload_n 2, 1) := by decide +kernel
theorem dX5_ofOperator_9 : decode cX5_ofOperator 9 = .ok (.aload_n 3, 1) := by decide +kernel
theorem dX5_ofOperator_10 : decode cX5_ofOperator 10 = .ok (.invokespecial 30, 3) := by decide +kernel
theorem dX5_ofOperator_13 : decode cX5_ofOperator 13 = .ok (.areturn, 1) := by decide +kernel
theorem dX5_arguments_0 : decode cX5_arguments 0 = .ok (.aload_n 0, 1) := by decide +kernel
theorem dX5_arguments_1 : decode cX5_arguments 1 = .ok (.getfield 24, 3) := by decide +kernel
theorem dX5_arguments_4 : decode cX5_arguments 4 = .ok (.ifnonnull 7, 3) := by decide +kernel
theorem dX5_arguments_7 : decode cX5_arguments 7 = .ok (.iconst 0, 1) := by decide +kernel
theorem dX5_arguments_8 : decode cX5_arguments 8 = .ok (.goto 15, 3) := by decide +kernel
theorem dX5_arguments_11 : decode cX5_arguments 11 = .ok (.aload_n 0, 1) := by decide +kernel
theorem dX5_arguments_12 : decode cX5_arguments 12 = .ok (.getfield 27, 3) := by decide +kernel
theorem dX5_arguments_15 : decode cX5_arguments 15 = .ok (.ifnonnull 7, 3) := by decide +kernel
theorem dX5_arguments_18 : decode cX5_arguments 18 = .ok (.iconst 1, 1) := by decide +kernel
theorem dX5_arguments_19 : decode cX5_arguments 19 = .ok (.goto 4, 3) := by decide +kernel
theorem dX5_arguments_22 : decode cX5_arguments 22 = .ok (.iconst 2, 1) := by decide +kernel
theorem dX5_arguments_23 : decode cX5_arguments 23 = .ok (.ireturn, 1) := by decide +kernel
theorem dX5_canBeSet_0 : decode cX5_canBeSet 0 = .ok (.aload_n 0, 1) := by decide +kernel
theorem dX5_canBeSet_1 : decode cX5_canBeSet 1 = .ok (.getfield 33, 3) := by decide +kernel
theorem dX5_canBeSet_4 : decode cX5_canBeSet 4 = .ok (.ifCond .ne 23, 3) := by decide +kernel
theorem dX5_canBeSet_7 : decode cX5_canBeSet 7 = .ok (.aload_n 0, 1) := by decide +kernel
theorem dX5_canBeSet_8 : decode cX5_canBeSet 8 = .ok (.getfield 7, 3) := by decide +kernel
theorem dX5_canBeSet_11 : decode cX5_canBeSet 11 = .ok (.iconst 3, 1) := by decide +kernel
theorem dX5_canBeSet_12 : decode cX5_canBeSet 12 = .ok (.if_icmp .eq 11, 3) := by decide +kernel
theorem dX5_canBeSet_15 : decode cX5_canBeSet 15 = .ok (.aload_n 0, 1) := by decide +kernel
theorem dX5_canBeSet_16 : decode cX5_canBeSet 16 = .ok (.getfield 7, 3) := by decide +kernel
theorem dX5_canBeSet_19 : decode cX5_canBeSet 19 = .ok (.iconst 4, 1) := by decide +kernel
theorem dX5_canBeSet_20 : decode cX5_canBeSet 20 = .ok (.if_icmp .ne 7, 3) := by decide +kernel
theorem dX5_canBeSet_23 : decode cX5_canBeSet 23 = .ok (.iconst 1, 1) := by decide +kernel
theorem dX5_canBeSet_24 : decode cX5_canBeSet 24 = .ok (.goto 4, 3) := by decide +kernel
theorem dX5_canBeSet_27 : decode cX5_canBeSet 27 = .ok (.iconst 0, 1) := by decide +kernel
theorem dX5_canBeSet_28 : decode cX5_canBeSet 28 = .ok (.ireturn, 1) := by decide +kernel
theorem dX6_init_0 : decode cX6_init 0 = .ok (.aload_n 0, 1) := by decide +kernel
theorem dX6_init_1 : decode cX6_init 1 = .ok (.invokespecial 3, 3) := by decide +kernel
theorem dX6_init_4 : decode cX6_init 4 = .ok (.aload_n 0, 1) := by decide +kernel
theorem dX6_init_5 : decode cX6_init 5 = .ok (.new 9, 3) := by decide +kernel
theorem dX6_init_8 : decode cX6_init 8 = .ok (.dup, 1) := by decide +kernel
theorem dX6_init_9 : decode cX6_init 9 = .ok (.invokespecial 11, 3) := by decide +kernel
theorem dX6_init_12 : decode cX6_init 12 = .ok (.putfield 12, 3) := by decide +kernel
theorem dX6_init_15 : decode cX6_init 15 = .ok (.return_, 1) := by decide +kernel
theorem dX6_read_0 : decode cX6_read 0 = .ok (.aload_n 0, 1) := by decide +kernel
theorem dX6_read_1 : decode cX6_read 1 = .ok (.iconst 0, 1) := by decide +kernel
theorem dX6_read_2 : decode cX6_read 2 = .ok (.putfield 18, 3) := by decide +kernel
theorem dX6_read_5 : decode cX6_read 5 = .ok (.aload_n 0, 1) := by decide +kernel
theorem dX6_read_6 : decode cX6_read 6 = .ok (.iconst 0, 1) := by decide +kernel
theorem dX6_read_7 : decode cX6_read 7 = .ok (.putfield 22, 3) := by decide +kernel
theorem dX6_read_10 : decode cX6_read 10 = .ok (.aload_n 0, 1) := by decide +kernel
theorem dX6_read_11 : decode cX6_read 11 = .ok (.aload_n 0, 1) := by decide +kernel
theorem dX6_read_12 : decode cX6_read 12 = .ok (.getfield 12, 3) := by decide +kernel
theorem dX6_read_15 : decode cX6_read 15 = .ok (.invokevirtual 25, 3) := by decide +kernel
theorem dX6_read_18 : decode cX6_read 18 = .ok (.putfield 29, 3) := by decide +kernel
theorem dX6_read_21 : decode cX6_read 21 = .ok (.aconst_null, 1) := by decide +kernel
theorem dX6_read_22 : decode cX6_read 22 = .ok (.astore_n 1, 1) := by decide +kernel
theorem dX6_read_23 : decode cX6_read 23 = .ok (.aload_n 0, 1) := by decide +kernel
theorem dX6_read_24 : decode cX6_read 24 = .ok (.getfield 29, 3) := by decide +kernel
theorem dX6_read_27 : decode cX6_read 27 = .ok (.iconst (-1), 1) := by decide +kernel
theorem dX6_read_28 : decode cX6_read 28 = .ok (.if_icmp .ne 11, 3) := by decide +kernel
theorem dX6_read_31 : decode cX6_read 31 = .ok (.aload_n 0, 1) := by decide +kernel
theorem dX6_read_32 : decode cX6_read 32 = .ok (.invokevirtual 32, 3) := by decide +kernel
theorem dX6_read_35 : decode cX6_read 35 = .ok (.astore_n 1, 1) := by decide +kernel
theorem dX6_read_36 : decode cX6_read 36 = .ok (.goto 8, 3) := by decide +kernel
theorem dX6_read_39 : decode cX6_read 39 = .ok (.aload_n 0, 1) := by decide +kernel
theorem dX6_read_40 : decode cX6_read 40 = .ok (.iconst 1, 1) := by decide +kernel
theorem dX6_read_41 : decode cX6_read 41 = .ok (.putfield 22, 3) := by decide +kernel
theorem dX6_read_44 : decode cX6_read 44 = .ok (.aload_n 0, 1) := by decide +kernel
theorem dX6_read_45 : decode cX6_read 45 = .ok (.getfield 12, 3) := by decide +kernel
theorem dX6_read_48 : decode cX6_read 48 = .ok (.iconst 0, 1) := by decide +kernel
theorem dX6_read_49 : decode cX6_read 49 = .ok (.putfield 36, 3) := by decide +kernel
theorem dX6_read_52 : decode cX6_read 52 = .ok (.aload_n 1, 1) := by decide +kernel
theorem dX6_read_53 : decode cX6_read 53 = .ok (.areturn, 1) := by decide +kernel
theorem dX6_phrase_0 : decode cX6_phrase 0 = .ok (.aload_n 0, 1) := by decide +kernel
theorem dX6_phrase_1 : decode cX6_phrase 1 = .ok (.iconst 0, 1) := by decide +kernel
theorem dX6_phrase_2 : decode cX6_phrase 2 = .ok (.invokevirtual 39, 3) := by decide +kernel
theorem dX6_phrase_5 : decode cX6_phrase 5 = .ok (.astore_n 1, 1) := by decide +kernel
theorem dX6_phrase_6 : decode cX6_phrase 6 = .ok (.aload_n 1, 1) := by decide +kernel
theorem dX6_phrase_7 : decode cX6_phrase 7 = .ok (.astore_n 2, 1) := by decide +kernel
theorem dX6_phrase_8 : decode cX6_phrase 8 = .ok (.aload_n 1, 1) := by decide +kernel
theorem dX6_phrase_9 : decode cX6_phrase 9 = .ok (.ifnull 52, 3) := by decide +kernel
theorem dX6_phrase_12 : decode cX6_phrase 12 = .ok (.aload_n 0, 1) := by decide +kernel
theorem dX6_phrase_13 : decode cX6_phrase 13 = .ok (.invokevirtual 43, 3) := by decide +kernel
theorem dX6_phrase_16 : decode cX6_phrase 16 = .ok (.bipush 61, 2) := by decide +kernel
theorem dX6_phrase_18 : decode cX6_phrase 18 = .ok (.if_icmp .ne 43, 3) := by decide +kernel
theorem dX6_phrase_21 : decode cX6_phrase 21 = .ok (.aload_n 1, 1) := by decide +kernel
theorem dX6_phrase_22 : decode cX6_phrase 22 = .ok (.invokevirtual 46, 3) := by decide +kernel
theorem dX6_phrase_25 : decode cX6_phrase 25 = .ok (.ifCond .eq 36, 3) := by decide +kernel
theorem dX6_phrase_28 : decode cX6_phrase 28 = .ok (.aload_n 0, 1) := by decide +kernel
theorem dX6_phrase_29 : decode cX6_phrase 29 = .ok (.dup, 1) := by decide +kernel
theorem dX6_phrase_30 : decode cX6_phrase 30 = .ok (.getfield 18, 3) := by decide +kernel
theorem dX6_phrase_33 : decode cX6_phrase 33 = .ok (.iconst 1, 1) := by decide +kernel
theorem dX6_phrase_34 : decode cX6_phrase 34 = .ok (.iadd, 1) := by decide +kernel
theorem dX6_phrase_35 : decode cX6_phrase 35 = .ok (.putfield 18, 3) := by decide +kernel
theorem dX6_phrase_38 : decode cX6_phrase 38 = .ok (.aload_n 0, 1) := by decide +kernel
theorem dX6_phrase_39 : decode cX6_phrase 39 = .ok (.iconst 0, 1) := by decide +kernel
theorem dX6_phrase_40 : decode cX6_phrase 40 = .ok (.invokevirtual 39, 3) := by decide +kernel
theorem dX6_phrase_43 : decode cX6_phrase 43 = .ok (.astore_n 3, 1) := by decide +kernel
theorem dX6_phrase_44 : decode cX6_phrase 44 = .ok (.aload_n 3, 1) := by decide +kernel
theorem dX6_phrase_45 : decode cX6_phrase 45 = .ok (.ifnonnull 7, 3) := by decide +kernel
theorem dX6_phrase_48 : decode cX6_phrase 48 = .ok (.aconst_null, 1) := by decide +kernel
theorem dX6_phrase_49 : decode cX6_phrase 49 = .ok (.goto 11, 3) := by decide +kernel
theorem dX6_phrase_52 : decode cX6_phrase 52 = .ok (.bipush 61, 2) := by decide +kernel
theorem dX6_phrase_54 : decode cX6_phrase 54 = .ok (.aload_n 1, 1) := by decide +kernel
theorem dX6_phrase_55 : decode cX6_phrase 55 = .ok (.aload_n 3, 1) := by decide +kernel
theorem dX6_phrase_56 : decode cX6_phrase 56 = .ok (.aconst_null, 1) := by decide +kernel
theorem dX6_phrase_57 : decode cX6_phrase 57 = .ok (.invokestatic 52, 3) := by decide +kernel
theorem dX6_phrase_60 : decode cX6_phrase 60 = .ok (.astore_n 2, 1) := by decide +kernel
theorem dX6_phrase_61 : decode cX6_phrase 61 = .ok (.aload_n 2, 1) := by decide +kernel
theorem dX6_phrase_62 : decode cX6_phrase 62 = .ok (.ifnull 18, 3) := by decide +kernel
theorem dX6_phrase_65 : decode cX6_phrase 65 = .ok (.aload_n 0, 1) := by decide +kernel
theorem dX6_phrase_66 : decode cX6_phrase 66 = .ok (.invokevirtual 43, 3) := by decide +kernel
theorem dX6_phrase_69 : decode cX6_phrase 69 = .ok (.ifCond .eq 11, 3) := by decide +kernel
theorem dX6_phrase_72 : decode cX6_phrase 72 = .ok (.aload_n 0, 1) := by decide +kernel
theorem dX6_phrase_73 : decode cX6_phrase 73 = .ok (.iconst 2, 1) := by decide +kernel
theorem dX6_phrase_74 : decode cX6_phrase 74 = .ok (.invokevirtual 56, 3) := by decide +kernel
theorem dX6_phrase_77 : decode cX6_phrase 77 = .ok (.goto 4, 3) := by decide +kernel
theorem dX6_phrase_80 : decode cX6_phrase 80 = .ok (.aload_n 2, 1) := by decide +kernel
theorem dX6_phrase_81 : decode cX6_phrase 81 = .ok (.areturn, 1) := by decide +kernel
theorem dX6_choice_0 : decode cX6_choice 0 = .ok (.iload_n 1, 1) := by decide +kernel
theorem dX6_choice_1 : decode cX6_choice 1 = .ok (.iconst 4, 1) := by decide +kernel
theorem dX6_choice_2 : decode cX6_choice 2 = .ok (.if_icmp .le 9, 3) := by decide +kernel
theorem dX6_choice_5 : decode cX6_choice 5 = .ok (.aload_n 0, 1) := by decide +kernel
theorem dX6_choice_6 : decode cX6_choice 6 = .ok (.iconst 3, 1) := by decide +kernel
theorem dX6_choice_7 : decode cX6_choice 7 = .ok (.invokevirtual 56, 3) := by decide +kernel
theorem dX6_choice_10 : decode cX6_choice 10 = .ok (.areturn, 1) := by decide +kernel
theorem dX6_choice_11 : decode cX6_choice 11 = .ok (.aload_n 0, 1) := by decide +kernel
theorem dX6_choice_12 : decode cX6_choice 12 = .ok (.iconst 0, 1) := by decide +kernel
theorem dX6_choice_13 : decode cX6_choice 13 = .ok (.iload_n 1, 1) := by decide +kernel
theorem dX6_choice_14 : decode cX6_choice 14 = .ok (.invokevirtual 59, 3) := by decide +kernel
theorem dX6_choice_17 : decode cX6_choice 17 = .ok (.astore_n 2, 1) := by decide +kernel
theorem dX6_choice_18 : decode cX6_choice 18 = .ok (.aload_n 2, 1) := by decide +kernel
theorem dX6_choice_19 : decode cX6_choice 19 = .ok (.ifnonnull 5, 3) := by decide +kernel
theorem dX6_choice_22 : decode cX6_choice 22 = .ok (.aconst_null, 1) := by decide +kernel
theorem dX6_choice_23 : decode cX6_choice 23 = .ok (.areturn, 1) := by decide +kernel
theorem dX6_choice_24 : decode cX6_choice 24 = .ok (.aload_n 0, 1) := by decide +kernel
theorem dX6_choice_25 : decode cX6_choice 25 = .ok (.sipush 16186, 3) := by decide +kernel
theorem dX6_choice_28 : decode cX6_choice 28 = .ok (.invokevirtual 63, 3) := by decide +kernel
theorem dX6_choice_31 : decode cX6_choice 31 = .ok (.ifCond .eq 29, 3) := by decide +kernel
theorem dX6_choice_34 : decode cX6_choice 34 = .ok (.aload_n 0, 1) := by decide +kernel
theorem dX6_choice_35 : decode cX6_choice 35 = .ok (.iload_n 1, 1) := by decide +kernel
theorem dX6_choice_36 : decode cX6_choice 36 = .ok (.iconst 1, 1) := by decide +kernel
theorem dX6_choice_37 : decode cX6_choice 37 = .ok (.iadd, 1) := by decide +kernel
theorem dX6_choice_38 : decode cX6_choice 38 = .ok (.invokevirtual 39, 3) := by decide +kernel
theorem dX6_choice_41 : decode cX6_choice 41 = .ok (.astore_n 3, 1) := by decide +kernel
theorem dX6_choice_42 : decode cX6_choice 42 = .ok (.aload_n 3, 1) := by decide +kernel
theorem dX6_choice_43 : decode cX6_choice 43 = .ok (.ifnonnull 7, 3) := by decide +kernel
theorem dX6_choice_46 : decode cX6_choice 46 = .ok (.aconst_null, 1) := by decide +kernel
theorem dX6_choice_47 : decode cX6_choice 47 = .ok (.goto 12, 3) := by decide +kernel
theorem dX6_choice_50 : decode cX6_choice 50 = .ok (.sipush 16186, 3) := by decide +kernel
theorem dX6_choice_53 : decode cX6_choice 53 = .ok (.aload_n 2, 1) := by decide +kernel
theorem dX6_choice_54 : decode cX6_choice 54 = .ok (.aload_n 3, 1) := by decide +kernel
theorem dX6_choice_55 : decode cX6_choice 55 = .ok (.aconst_null, 1) := by decide +kernel
theorem dX6_choice_56 : decode cX6_choice 56 = .ok (.invokestatic 52, 3) := by decide +kernel
theorem dX6_choice_59 : decode cX6_choice 59 = .ok (.areturn, 1) := by decide +kernel
theorem dX6_choice_60 : decode cX6_choice 60 = .ok (.aload_n 0, 1) := by decide +kernel
theorem dX6_choice_61 : decode cX6_choice 61 = .ok (.bipush 63, 2) := by decide +kernel
theorem dX6_choice_63 : decode cX6_choice 63 = .ok (.invokevirtual 63, 3) := by decide +kernel
theorem dX6_choice_66 : decode cX6_choice 66 = .ok (.ifCond .eq 12, 3) := by decide +kernel
theorem dX6_choice_69 : decode cX6_choice 69 = .ok (.aload_n 0, 1) := by decide +kernel
theorem dX6_choice_70 : decode cX6_choice 70 = .ok (.aload_n 2, 1) := by decide +kernel
theorem dX6_choice_71 : decode cX6_choice 71 = .ok (.iload_n 1, 1) := by decide +kernel
theorem dX6_choice_72 : decode cX6_choice 72 = .ok (.invokevirtual 67, 3) := by decide +kernel
theorem dX6_choice_75 : decode cX6_choice 75 = .ok (.goto 4, 3) := by decide +kernel
theorem dX6_choice_78 : decode cX6_choice 78 = .ok (.aload_n 2, 1) := by decide +kernel
theorem dX6_choice_79 : decode cX6_choice 79 = .ok (.areturn, 1) := by decide +kernel
theorem dX6_chosen_0 : decode cX6_chosen 0 = .ok (.aload_n 0, 1) := by decide +kernel
theorem dX6_chosen_1 : decode cX6_chosen 1 = .ok (.iload_n 2, 1) := by decide +kernel
theorem dX6_chosen_2 : decode cX6_chosen 2 = .ok (.iconst 1, 1) := by decide +kernel
theorem dX6_chosen_3 : decode cX6_chosen 3 = .ok (.iadd, 1) := by decide +kernel
theorem dX6_chosen_4 : decode cX6_chosen 4 = .ok (.invokevirtual 39, 3) := by decide +kernel
theorem dX6_chosen_7 : decode cX6_chosen 7 = .ok (.astore_n 3, 1) := by decide +kernel
theorem dX6_chosen_8 : decode cX6_chosen 8 = .ok (.aload_n 3, 1) := by decide +kernel
theorem dX6_chosen_9 : decode cX6_chosen 9 = .ok (.ifnonnull 5, 3) := by decide +kernel
theorem dX6_chosen_12 : decode cX6_chosen 12 = .ok (.aconst_null, 1) := by decide +kernel
theorem dX6_chosen_13 : decode cX6_chosen 13 = .ok (.areturn, 1) := by decide +kernel
theorem dX6_chosen_14 : decode cX6_chosen 14 = .ok (.aload_n 0, 1) := by decide +kernel
theorem dX6_chosen_15 : decode cX6_chosen 15 = .ok (.bipush 58, 2) := by decide +kernel
theorem dX6_chosen_17 : decode cX6_chosen 17 = .ok (.invokevirtual 63, 3) := by decide +kernel
theorem dX6_chosen_20 : decode cX6_chosen 20 = .ok (.ifCond .ne 9, 3) := by decide +kernel
theorem dX6_chosen_23 : decode cX6_chosen 23 = .ok (.aload_n 0, 1) := by decide +kernel
theorem dX6_chosen_24 : decode cX6_chosen 24 = .ok (.iconst 2, 1) := by decide +kernel
theorem dX6_chosen_25 : decode cX6_chosen 25 = .ok (.invokevirtual 56, 3) := by decide +kernel
theorem dX6_chosen_28 : decode cX6_chosen 28 = .ok (.areturn, 1) := by decide +kernel
theorem dX6_chosen_29 : decode cX6_chosen 29 = .ok (.aload_n 0, 1) := by decide +kernel
theorem dX6_chosen_30 : decode cX6_chosen 30 = .ok (.iload_n 2, 1) := by decide +kernel
theorem dX6_chosen_31 : decode cX6_chosen 31 = .ok (.iconst 1, 1) := by decide +kernel
theorem dX6_chosen_32 : decode cX6_chosen 32 = .ok (.iadd, 1) := by decide +kernel
theorem dX6_chosen_33 : decode cX6_chosen 33 = .ok (.invokevirtual 39, 3) := by decide +kernel
theorem dX6_chosen_36 : decode cX6_chosen 36 = .ok (.astore 4, 2) := by decide +kernel
theorem dX6_chosen_38 : decode cX6_chosen 38 = .ok (.aload 4, 2) := by decide +kernel
theorem dX6_chosen_40 : decode cX6_chosen 40 = .ok (.ifnonnull 7, 3) := by decide +kernel
theorem dX6_chosen_43 : decode cX6_chosen 43 = .ok (.aconst_null, 1) := by decide +kernel
theorem dX6_chosen_44 : decode cX6_chosen 44 = .ok (.goto 12, 3) := by decide +kernel
theorem dX6_chosen_47 : decode cX6_chosen 47 = .ok (.bipush 63, 2) := by decide +kernel
theorem dX6_chosen_49 : decode cX6_chosen 49 = .ok (.aload_n 1, 1) := by decide +kernel
theorem dX6_chosen_50 : decode cX6_chosen 50 = .ok (.aload_n 3, 1) := by decide +kernel
theorem dX6_chosen_51 : decode cX6_chosen 51 = .ok (.aload 4, 2) := by decide +kernel
theorem dX6_chosen_53 : decode cX6_chosen 53 = .ok (.invokestatic 52, 3) := by decide +kernel
theorem dX6_chosen_56 : decode cX6_chosen 56 = .ok (.areturn, 1) := by decide +kernel
theorem dX6_level_0 : decode cX6_level 0 = .ok (.iload_n 1, 1) := by decide +kernel
theorem dX6_level_1 : decode cX6_level 1 = .ok (.iconst 4, 1) := by decide +kernel
theorem dX6_level_2 : decode cX6_level 2 = .ok (.if_icmp .le 9, 3) := by decide +kernel
theorem dX6_level_5 : decode cX6_level 5 = .ok (.aload_n 0, 1) := by decide +kernel
theorem dX6_level_6 : decode cX6_level 6 = .ok (.iload_n 2, 1) := by decide +kernel
theorem dX6_level_7 : decode cX6_level 7 = .ok (.invokevirtual 71, 3) := by decide +kernel
theorem dX6_level_10 : decode cX6_level 10 = .ok (.areturn, 1) := by decide +kernel
theorem dX6_level_11 : decode cX6_level 11 = .ok (.aload_n 0, 1) := by decide +kernel
theorem dX6_level_12 : decode cX6_level 12 = .ok (.iload_n 1, 1) := by decide +kernel
theorem dX6_level_13 : decode cX6_level 13 = .ok (.iconst 1, 1) := by decide +kernel
theorem dX6_level_14 : decode cX6_level 14 = .ok (.iadd, 1) := by decide +kernel
theorem dX6_level_15 : decode cX6_level 15 = .ok (.iload_n 2, 1) := by decide +kernel
theorem dX6_level_16 : decode cX6_level 16 = .ok (.invokevirtual 59, 3) := by decide +kernel
theorem dX6_level_19 : decode cX6_level 19 = .ok (.astore_n 3, 1) := by decide +kernel
theorem dX6_level_20 : decode cX6_level 20 = .ok (.iconst 0, 1) := by decide +kernel
theorem dX6_level_21 : decode cX6_level 21 = .ok (.istore 4, 2) := by decide +kernel
theorem dX6_level_23 : decode cX6_level 23 = .ok (.iload 4, 2) := by decide +kernel
theorem dX6_level_25 : decode cX6_level 25 = .ok (.bipush 40, 2) := by decide +kernel
theorem dX6_level_27 : decode cX6_level 27 = .ok (.if_icmp .ge 77, 3) := by decide +kernel
theorem dX6_level_30 : decode cX6_level 30 = .ok (.aload_n 3, 1) := by decide +kernel
theorem dX6_level_31 : decode cX6_level 31 = .ok (.ifnull 73, 3) := by decide +kernel
theorem dX6_level_34 : decode cX6_level 34 = .ok (.aload_n 0, 1) := by decide +kernel
theorem dX6_level_35 : decode cX6_level 35 = .ok (.invokevirtual 43, 3) := by decide +kernel
theorem dX6_level_38 : decode cX6_level 38 = .ok (.invokestatic 74, 3) := by decide +kernel
theorem dX6_level_41 : decode cX6_level 41 = .ok (.iload_n 1, 1) := by decide +kernel
theorem dX6_level_42 : decode cX6_level 42 = .ok (.if_icmp .ne 62, 3) := by decide +kernel
theorem dX6_level_45 : decode cX6_level 45 = .ok (.aload_n 0, 1) := by decide +kernel
theorem dX6_level_46 : decode cX6_level 46 = .ok (.invokevirtual 43, 3) := by decide +kernel
theorem dX6_level_49 : decode cX6_level 49 = .ok (.istore 5, 2) := by decide +kernel
theorem dX6_level_51 : decode cX6_level 51 = .ok (.aload_n 0, 1) := by decide +kernel
theorem dX6_level_52 : decode cX6_level 52 = .ok (.dup, 1) := by decide +kernel
theorem dX6_level_53 : decode cX6_level 53 = .ok (.getfield 18, 3) := by decide +kernel
theorem dX6_level_56 : decode cX6_level 56 = .ok (.iconst 1, 1) := by decide +kernel
theorem dX6_level_57 : decode cX6_level 57 = .ok (.iadd, 1) := by decide +kernel
theorem dX6_level_58 : decode cX6_level 58 = .ok (.putfield 18, 3) := by decide +kernel
theorem dX6_level_61 : decode cX6_level 61 = .ok (.aload_n 0, 1) := by decide +kernel
theorem dX6_level_62 : decode cX6_level 62 = .ok (.iload_n 1, 1) := by decide +kernel
theorem dX6_level_63 : decode cX6_level 63 = .ok (.iconst 1, 1) := by decide +kernel
theorem dX6_level_64 : decode cX6_level 64 = .ok (.iadd, 1) := by decide +kernel
theorem dX6_level_65 : decode cX6_level 65 = .ok (.iload_n 2, 1) := by decide +kernel
theorem dX6_level_66 : decode cX6_level 66 = .ok (.invokevirtual 59, 3) := by decide +kernel
theorem dX6_level_69 : decode cX6_level 69 = .ok (.astore 6, 2) := by decide +kernel
theorem dX6_level_71 : decode cX6_level 71 = .ok (.aload 6, 2) := by decide +kernel
theorem dX6_level_73 : decode cX6_level 73 = .ok (.ifnonnull 7, 3) := by decide +kernel
theorem dX6_level_76 : decode cX6_level 76 = .ok (.aconst_null, 1) := by decide +kernel
theorem dX6_level_77 : decode cX6_level 77 = .ok (.goto 12, 3) := by decide +kernel
theorem dX6_level_80 : decode cX6_level 80 = .ok (.iload 5, 2) := by decide +kernel
theorem dX6_level_82 : decode cX6_level 82 = .ok (.aload_n 3, 1) := by decide +kernel
theorem dX6_level_83 : decode cX6_level 83 = .ok (.aload 6, 2) := by decide +kernel
theorem dX6_level_85 : decode cX6_level 85 = .ok (.aconst_null, 1) := by decide +kernel
theorem dX6_level_86 : decode cX6_level 86 = .ok (.invokestatic 52, 3) := by decide +kernel
theorem dX6_level_89 : decode cX6_level 89 = .ok (.astore_n 3, 1) := by decide +kernel
theorem dX6_level_90 : decode cX6_level 90 = .ok (.iload_n 1, 1) := by decide +kernel
theorem dX6_level_91 : decode cX6_level 91 = .ok (.iconst 2, 1) := by decide +kernel
theorem dX6_level_92 : decode cX6_level 92 = .ok (.if_icmp .ne 6, 3) := by decide +kernel
theorem dX6_level_95 : decode cX6_level 95 = .ok (.goto 9, 3) := by decide +kernel
theorem dX6_level_98 : decode cX6_level 98 = .ok (.iinc 4 1, 3) := by decide +kernel
theorem dX6_level_101 : decode cX6_level 101 = .ok (.goto (-78), 3) := by decide +kernel
theorem dX6_level_104 : decode cX6_level 104 = .ok (.aload_n 3, 1) := by decide +kernel
theorem dX6_level_105 : decode cX6_level 105 = .ok (.areturn, 1) := by decide +kernel
theorem dX6_levelOf_0 : decode cX6_levelOf 0 = .ok (.iload_n 0, 1) := by decide +kernel
theorem dX6_levelOf_1 : decode cX6_levelOf 1 = .ok (.lookupswitch 125 #[(37, 123), (42, 123), (43, 121), (45, 121), (47, 123), (60, 119), (62, 119), (8509, 119), (9766, 117), (15421, 119), (15677, 119), (15933, 119), (31868, 115)], 115) := by decide +kernel
theorem dX6_levelOf_116 : decode cX6_levelOf 116 = .ok (.iconst 0, 1) := by decide +kernel
theorem dX6_levelOf_117 : decode cX6_levelOf 117 = .ok (.ireturn, 1) := by decide +kernel
theorem dX6_levelOf_118 : decode cX6_levelOf 118 = .ok (.iconst 1, 1) := by decide +kernel
theorem dX6_levelOf_119 : decode cX6_levelOf 119 = .ok (.ireturn, 1) := by decide +kernel
theorem dX6_levelOf_120 : decode cX6_levelOf 120 = .ok (.iconst 2, 1) := by decide +kernel
theorem dX6_levelOf_121 : decode cX6_levelOf 121 = .ok (.ireturn, 1) := by decide +kernel
theorem dX6_levelOf_122 : decode cX6_levelOf 122 = .ok (.iconst 3, 1) := by decide +kernel
theorem dX6_levelOf_123 : decode cX6_levelOf 123 = .ok (.ireturn, 1) := by decide +kernel
theorem dX6_levelOf_124 : decode cX6_levelOf 124 = .ok (.iconst 4, 1) := by decide +kernel
theorem dX6_levelOf_125 : decode cX6_levelOf 125 = .ok (.ireturn, 1) := by decide +kernel
theorem dX6_levelOf_126 : decode cX6_levelOf 126 = .ok (.iconst (-1), 1) := by decide +kernel
theorem dX6_levelOf_127 : decode cX6_levelOf 127 = .ok (.ireturn, 1) := by decide +kernel
theorem dX6_sign_0 : decode cX6_sign 0 = .ok (.aload_n 0, 1) := by decide +kernel
theorem dX6_sign_1 : decode cX6_sign 1 = .ok (.bipush 45, 2) := by decide +kernel
theorem dX6_sign_3 : decode cX6_sign 3 = .ok (.invokevirtual 63, 3) := by decide +kernel
theorem dX6_sign_6 : decode cX6_sign 6 = .ok (.ifCond .eq 8, 3) := by decide +kernel
theorem dX6_sign_9 : decode cX6_sign 9 = .ok (.bipush 6, 2) := by decide +kernel
theorem dX6_sign_11 : decode cX6_sign 11 = .ok (.goto 18, 3) := by decide +kernel
theorem dX6_sign_14 : decode cX6_sign 14 = .ok (.aload_n 0, 1) := by decide +kernel
theorem dX6_sign_15 : decode cX6_sign 15 = .ok (.bipush 33, 2) := by decide +kernel
theorem dX6_sign_17 : decode cX6_sign 17 = .ok (.invokevirtual 63, 3) := by decide +kernel
theorem dX6_sign_20 : decode cX6_sign 20 = .ok (.ifCond .eq 8, 3) := by decide +kernel
theorem dX6_sign_23 : decode cX6_sign 23 = .ok (.bipush 33, 2) := by decide +kernel
theorem dX6_sign_25 : decode cX6_sign 25 = .ok (.goto 4, 3) := by decide +kernel
theorem dX6_sign_28 : decode cX6_sign 28 = .ok (.iconst (-1), 1) := by decide +kernel
theorem dX6_sign_29 : decode cX6_sign 29 = .ok (.istore_n 2, 1) := by decide +kernel
theorem dX6_sign_30 : decode cX6_sign 30 = .ok (.aload_n 0, 1) := by decide +kernel
theorem dX6_sign_31 : decode cX6_sign 31 = .ok (.iload_n 1, 1) := by decide +kernel
theorem dX6_sign_32 : decode cX6_sign 32 = .ok (.invokevirtual 78, 3) := by decide +kernel
theorem dX6_sign_35 : decode cX6_sign 35 = .ok (.astore_n 3, 1) := by decide +kernel
theorem dX6_sign_36 : decode cX6_sign 36 = .ok (.aload_n 3, 1) := by decide +kernel
theorem dX6_sign_37 : decode cX6_sign 37 = .ok (.ifnull 8, 3) := by decide +kernel
theorem dX6_sign_40 : decode cX6_sign 40 = .ok (.iload_n 2, 1) := by decide +kernel
theorem dX6_sign_41 : decode cX6_sign 41 = .ok (.iconst (-1), 1) := by decide +kernel
theorem dX6_sign_42 : decode cX6_sign 42 = .ok (.if_icmp .ne 7, 3) := by decide +kernel
theorem dX6_sign_45 : decode cX6_sign 45 = .ok (.aload_n 3, 1) := by decide +kernel
theorem dX6_sign_46 : decode cX6_sign 46 = .ok (.goto 10, 3) := by decide +kernel
theorem dX6_sign_49 : decode cX6_sign 49 = .ok (.iload_n 2, 1) := by decide +kernel
theorem dX6_sign_50 : decode cX6_sign 50 = .ok (.aload_n 3, 1) := by decide +kernel
theorem dX6_sign_51 : decode cX6_sign 51 = .ok (.aconst_null, 1) := by decide +kernel
theorem dX6_sign_52 : decode cX6_sign 52 = .ok (.aconst_null, 1) := by decide +kernel
theorem dX6_sign_53 : decode cX6_sign 53 = .ok (.invokestatic 52, 3) := by decide +kernel
theorem dX6_sign_56 : decode cX6_sign 56 = .ok (.areturn, 1) := by decide +kernel
theorem dX6_chain_0 : decode cX6_chain 0 = .ok (.aload_n 0, 1) := by decide +kernel
theorem dX6_chain_1 : decode cX6_chain 1 = .ok (.iload_n 1, 1) := by decide +kernel
theorem dX6_chain_2 : decode cX6_chain 2 = .ok (.invokevirtual 81, 3) := by decide +kernel
theorem dX6_chain_5 : decode cX6_chain 5 = .ok (.astore_n 2, 1) := by decide +kernel
theorem dX6_chain_6 : decode cX6_chain 6 = .ok (.iconst 0, 1) := by decide +kernel
theorem dX6_chain_7 : decode cX6_chain 7 = .ok (.istore_n 3, 1) := by decide +kernel
theorem dX6_chain_8 : decode cX6_chain 8 = .ok (.iload_n 3, 1) := by decide +kernel
theorem dX6_chain_9 : decode cX6_chain 9 = .ok (.bipush 40, 2) := by decide +kernel
theorem dX6_chain_11 : decode cX6_chain 11 = .ok (.if_icmp .ge 72, 3) := by decide +kernel
theorem dX6_chain_14 : decode cX6_chain 14 = .ok (.aload_n 2, 1) := by decide +kernel
theorem dX6_chain_15 : decode cX6_chain 15 = .ok (.ifnull 68, 3) := by decide +kernel
theorem dX6_chain_18 : decode cX6_chain 18 = .ok (.aload_n 0, 1) := by decide +kernel
theorem dX6_chain_19 : decode cX6_chain 19 = .ok (.sipush 16174, 3) := by decide +kernel
theorem dX6_chain_22 : decode cX6_chain 22 = .ok (.invokevirtual 63, 3) := by decide +kernel
theorem dX6_chain_25 : decode cX6_chain 25 = .ok (.istore 4, 2) := by decide +kernel
theorem dX6_chain_27 : decode cX6_chain 27 = .ok (.iload 4, 2) := by decide +kernel
theorem dX6_chain_29 : decode cX6_chain 29 = .ok (.ifCond .ne 15, 3) := by decide +kernel
theorem dX6_chain_32 : decode cX6_chain 32 = .ok (.aload_n 0, 1) := by decide +kernel
theorem dX6_chain_33 : decode cX6_chain 33 = .ok (.bipush 46, 2) := by decide +kernel
theorem dX6_chain_35 : decode cX6_chain 35 = .ok (.invokevirtual 63, 3) := by decide +kernel
theorem dX6_chain_38 : decode cX6_chain 38 = .ok (.ifCond .ne 6, 3) := by decide +kernel
theorem dX6_chain_41 : decode cX6_chain 41 = .ok (.goto 42, 3) := by decide +kernel
theorem dX6_chain_44 : decode cX6_chain 44 = .ok (.aload_n 0, 1) := by decide +kernel
theorem dX6_chain_45 : decode cX6_chain 45 = .ok (.invokevirtual 43, 3) := by decide +kernel
theorem dX6_chain_48 : decode cX6_chain 48 = .ok (.iconst 2, 1) := by decide +kernel
theorem dX6_chain_49 : decode cX6_chain 49 = .ok (.if_icmp .ne 12, 3) := by decide +kernel
theorem dX6_chain_52 : decode cX6_chain 52 = .ok (.aload_n 0, 1) := by decide +kernel
theorem dX6_chain_53 : decode cX6_chain 53 = .ok (.aload_n 2, 1) := by decide +kernel
theorem dX6_chain_54 : decode cX6_chain 54 = .ok (.iload_n 1, 1) := by decide +kernel
theorem dX6_chain_55 : decode cX6_chain 55 = .ok (.invokevirtual 84, 3) := by decide +kernel
theorem dX6_chain_58 : decode cX6_chain 58 = .ok (.goto 8, 3) := by decide +kernel
theorem dX6_chain_61 : decode cX6_chain 61 = .ok (.aload_n 0, 1) := by decide +kernel
theorem dX6_chain_62 : decode cX6_chain 62 = .ok (.iconst 2, 1) := by decide +kernel
theorem dX6_chain_63 : decode cX6_chain 63 = .ok (.invokevirtual 56, 3) := by decide +kernel
theorem dX6_chain_66 : decode cX6_chain 66 = .ok (.astore_n 2, 1) := by decide +kernel
theorem dX6_chain_67 : decode cX6_chain 67 = .ok (.aload_n 2, 1) := by decide +kernel
theorem dX6_chain_68 : decode cX6_chain 68 = .ok (.ifnull 9, 3) := by decide +kernel
theorem dX6_chain_71 : decode cX6_chain 71 = .ok (.aload_n 2, 1) := by decide +kernel
theorem dX6_chain_72 : decode cX6_chain 72 = .ok (.iload 4, 2) := by decide +kernel
theorem dX6_chain_74 : decode cX6_chain 74 = .ok (.putfield 87, 3) := by decide +kernel
theorem dX6_chain_77 : decode cX6_chain 77 = .ok (.iinc 3 1, 3) := by decide +kernel
theorem dX6_chain_80 : decode cX6_chain 80 = .ok (.goto (-72), 3) := by decide +kernel
theorem dX6_chain_83 : decode cX6_chain 83 = .ok (.aload_n 2, 1) := by decide +kernel
theorem dX6_chain_84 : decode cX6_chain 84 = .ok (.areturn, 1) := by decide +kernel
theorem dX6_first_0 : decode cX6_first 0 = .ok (.aload_n 0, 1) := by decide +kernel
theorem dX6_first_1 : decode cX6_first 1 = .ok (.invokevirtual 43, 3) := by decide +kernel
theorem dX6_first_4 : decode cX6_first 4 = .ok (.iconst 1, 1) := by decide +kernel
theorem dX6_first_5 : decode cX6_first 5 = .ok (.if_icmp .ne 30, 3) := by decide +kernel
theorem dX6_first_8 : decode cX6_first 8 = .ok (.aload_n 0, 1) := by decide +kernel
theorem dX6_first_9 : decode cX6_first 9 = .ok (.dup, 1) := by decide +kernel
theorem dX6_first_10 : decode cX6_first 10 = .ok (.getfield 18, 3) := by decide +kernel
theorem dX6_first_13 : decode cX6_first 13 = .ok (.iconst 1, 1) := by decide +kernel
theorem dX6_first_14 : decode cX6_first 14 = .ok (.iadd, 1) := by decide +kernel
theorem dX6_first_15 : decode cX6_first 15 = .ok (.putfield 18, 3) := by decide +kernel
theorem dX6_first_18 : decode cX6_first 18 = .ok (.aload_n 0, 1) := by decide +kernel
theorem dX6_first_19 : decode cX6_first 19 = .ok (.getfield 12, 3) := by decide +kernel
theorem dX6_first_22 : decode cX6_first 22 = .ok (.aload_n 0, 1) := by decide +kernel
theorem dX6_first_23 : decode cX6_first 23 = .ok (.getfield 18, 3) := by decide +kernel
theorem dX6_first_26 : decode cX6_first 26 = .ok (.iconst 1, 1) := by decide +kernel
theorem dX6_first_27 : decode cX6_first 27 = .ok (.isub, 1) := by decide +kernel
theorem dX6_first_28 : decode cX6_first 28 = .ok (.invokevirtual 91, 3) := by decide +kernel
theorem dX6_first_31 : decode cX6_first 31 = .ok (.invokestatic 95, 3) := by decide +kernel
theorem dX6_first_34 : decode cX6_first 34 = .ok (.areturn, 1) := by decide +kernel
theorem dX6_first_35 : decode cX6_first 35 = .ok (.aload_n 0, 1) := by decide +kernel
theorem dX6_first_36 : decode cX6_first 36 = .ok (.bipush 35, 2) := by decide +kernel
theorem dX6_first_38 : decode cX6_first 38 = .ok (.invokevirtual 63, 3) := by decide +kernel
theorem dX6_first_41 : decode cX6_first 41 = .ok (.ifCond .eq 27, 3) := by decide +kernel
theorem dX6_first_44 : decode cX6_first 44 = .ok (.aload_n 0, 1) := by decide +kernel
theorem dX6_first_45 : decode cX6_first 45 = .ok (.invokevirtual 43, 3) := by decide +kernel
theorem dX6_first_48 : decode cX6_first 48 = .ok (.iconst 2, 1) := by decide +kernel
theorem dX6_first_49 : decode cX6_first 49 = .ok (.if_icmp .ne 13, 3) := by decide +kernel
theorem dX6_first_52 : decode cX6_first 52 = .ok (.aload_n 0, 1) := by decide +kernel
theorem dX6_first_53 : decode cX6_first 53 = .ok (.invokevirtual 99, 3) := by decide +kernel
theorem dX6_first_56 : decode cX6_first 56 = .ok (.invokestatic 102, 3) := by decide +kernel
theorem dX6_first_59 : decode cX6_first 59 = .ok (.goto 8, 3) := by decide +kernel
theorem dX6_first_62 : decode cX6_first 62 = .ok (.aload_n 0, 1) := by decide +kernel
theorem dX6_first_63 : decode cX6_first 63 = .ok (.iconst 2, 1) := by decide +kernel
theorem dX6_first_64 : decode cX6_first 64 = .ok (.invokevirtual 56, 3) := by decide +kernel
theorem dX6_first_67 : decode cX6_first 67 = .ok (.areturn, 1) := by decide +kernel
theorem dX6_first_68 : decode cX6_first 68 = .ok (.aload_n 0, 1) := by decide +kernel
theorem dX6_first_69 : decode cX6_first 69 = .ok (.bipush 40, 2) := by decide +kernel
theorem dX6_first_71 : decode cX6_first 71 = .ok (.invokevirtual 63, 3) := by decide +kernel
theorem dX6_first_74 : decode cX6_first 74 = .ok (.ifCond .eq 9, 3) := by decide +kernel
theorem dX6_first_77 : decode cX6_first 77 = .ok (.aload_n 0, 1) := by decide +kernel
theorem dX6_first_78 : decode cX6_first 78 = .ok (.iload_n 1, 1) := by decide +kernel
theorem dX6_first_79 : decode cX6_first 79 = .ok (.invokevirtual 105, 3) := by decide +kernel
theorem dX6_first_82 : decode cX6_first 82 = .ok (.areturn, 1) := by decide +kernel
theorem dX6_first_83 : decode cX6_first 83 = .ok (.aload_n 0, 1) := by decide +kernel
theorem dX6_first_84 : decode cX6_first 84 = .ok (.invokevirtual 43, 3) := by decide +kernel
theorem dX6_first_87 : decode cX6_first 87 = .ok (.iconst 2, 1) := by decide +kernel
theorem dX6_first_88 : decode cX6_first 88 = .ok (.if_icmp .ne 11, 3) := by decide +kernel
theorem dX6_first_91 : decode cX6_first 91 = .ok (.aload_n 0, 1) := by decide +kernel
theorem dX6_first_92 : decode cX6_first 92 = .ok (.iload_n 1, 1) := by decide +kernel
theorem dX6_first_93 : decode cX6_first 93 = .ok (.invokevirtual 108, 3) := by decide +kernel
theorem dX6_first_96 : decode cX6_first 96 = .ok (.goto 8, 3) := by decide +kernel
theorem dX6_first_99 : decode cX6_first 99 = .ok (.aload_n 0, 1) := by decide +kernel
theorem dX6_first_100 : decode cX6_first 100 = .ok (.iconst 2, 1) := by decide +kernel
theorem dX6_first_101 : decode cX6_first 101 = .ok (.invokevirtual 56, 3) := by decide +kernel
theorem dX6_first_104 : decode cX6_first 104 = .ok (.areturn, 1) := by decide +kernel
theorem dX6_bracketed_0 : decode cX6_bracketed 0 = .ok (.aload_n 0, 1) := by decide +kernel
theorem dX6_bracketed_1 : decode cX6_bracketed 1 = .ok (.iload_n 1, 1) := by decide +kernel
theorem dX6_bracketed_2 : decode cX6_bracketed 2 = .ok (.iconst 1, 1) := by decide +kernel
theorem dX6_bracketed_3 : decode cX6_bracketed 3 = .ok (.iadd, 1) := by decide +kernel
theorem dX6_bracketed_4 : decode cX6_bracketed 4 = .ok (.invokevirtual 39, 3) := by decide +kernel
theorem dX6_bracketed_7 : decode cX6_bracketed 7 = .ok (.astore_n 2, 1) := by decide +kernel
theorem dX6_bracketed_8 : decode cX6_bracketed 8 = .ok (.aload_n 2, 1) := by decide +kernel
theorem dX6_bracketed_9 : decode cX6_bracketed 9 = .ok (.ifnonnull 5, 3) := by decide +kernel
theorem dX6_bracketed_12 : decode cX6_bracketed 12 = .ok (.aconst_null, 1) := by decide +kernel
theorem dX6_bracketed_13 : decode cX6_bracketed 13 = .ok (.areturn, 1) := by decide +kernel
theorem dX6_bracketed_14 : decode cX6_bracketed 14 = .ok (.aload_n 0, 1) := by decide +kernel
theorem dX6_bracketed_15 : decode cX6_bracketed 15 = .ok (.bipush 41, 2) := by decide +kernel
theorem dX6_bracketed_17 : decode cX6_bracketed 17 = .ok (.invokevirtual 63, 3) := by decide +kernel
theorem dX6_bracketed_20 : decode cX6_bracketed 20 = .ok (.ifCond .ne 9, 3) := by decide +kernel
theorem dX6_bracketed_23 : decode cX6_bracketed 23 = .ok (.aload_n 0, 1) := by decide +kernel
theorem dX6_bracketed_24 : decode cX6_bracketed 24 = .ok (.iconst 2, 1) := by decide +kernel
theorem dX6_bracketed_25 : decode cX6_bracketed 25 = .ok (.invokevirtual 56, 3) := by decide +kernel
theorem dX6_bracketed_28 : decode cX6_bracketed 28 = .ok (.areturn, 1) := by decide +kernel
theorem dX6_bracketed_29 : decode cX6_bracketed 29 = .ok (.aload_n 2, 1) := by decide +kernel
theorem dX6_bracketed_30 : decode cX6_bracketed 30 = .ok (.iconst 1, 1) := by decide +kernel
theorem dX6_bracketed_31 : decode cX6_bracketed 31 = .ok (.putfield 111, 3) := by decide +kernel
theorem dX6_bracketed_34 : decode cX6_bracketed 34 = .ok (.aload_n 2, 1) := by decide +kernel
theorem dX6_bracketed_35 : decode cX6_bracketed 35 = .ok (.areturn, 1) := by decide +kernel
theorem dX6_named_0 : decode cX6_named 0 = .ok (.aload_n 0, 1) := by decide +kernel
theorem dX6_named_1 : decode cX6_named 1 = .ok (.getfield 12, 3) := by decide +kernel
theorem dX6_named_4 : decode cX6_named 4 = .ok (.aload_n 0, 1) := by decide +kernel
theorem dX6_named_5 : decode cX6_named 5 = .ok (.getfield 18, 3) := by decide +kernel
theorem dX6_named_8 : decode cX6_named 8 = .ok (.invokevirtual 113, 3) := by decide +kernel
theorem dX6_named_11 : decode cX6_named 11 = .ok (.lookupswitch 86 #[(291207, 69), (407354, 33), (3217595, 51)], 33) := by decide +kernel
theorem dX6_named_44 : decode cX6_named 44 = .ok (.aload_n 0, 1) := by decide +kernel
theorem dX6_named_45 : decode cX6_named 45 = .ok (.dup, 1) := by decide +kernel
theorem dX6_named_46 : decode cX6_named 46 = .ok (.getfield 18, 3) := by decide +kernel
theorem dX6_named_49 : decode cX6_named 49 = .ok (.iconst 1, 1) := by decide +kernel
theorem dX6_named_50 : decode cX6_named 50 = .ok (.iadd, 1) := by decide +kernel
theorem dX6_named_51 : decode cX6_named 51 = .ok (.putfield 18, 3) := by decide +kernel
theorem dX6_named_54 : decode cX6_named 54 = .ok (.iconst 1, 1) := by decide +kernel
theorem dX6_named_55 : decode cX6_named 55 = .ok (.invokestatic 116, 3) := by decide +kernel
theorem dX6_named_58 : decode cX6_named 58 = .ok (.invokestatic 95, 3) := by decide +kernel
theorem dX6_named_61 : decode cX6_named 61 = .ok (.areturn, 1) := by decide +kernel
theorem dX6_named_62 : decode cX6_named 62 = .ok (.aload_n 0, 1) := by decide +kernel
theorem dX6_named_63 : decode cX6_named 63 = .ok (.dup, 1) := by decide +kernel
theorem dX6_named_64 : decode cX6_named 64 = .ok (.getfield 18, 3) := by decide +kernel
theorem dX6_named_67 : decode cX6_named 67 = .ok (.iconst 1, 1) := by decide +kernel
theorem dX6_named_68 : decode cX6_named 68 = .ok (.iadd, 1) := by decide +kernel
theorem dX6_named_69 : decode cX6_named 69 = .ok (.putfield 18, 3) := by decide +kernel
theorem dX6_named_72 : decode cX6_named 72 = .ok (.iconst 0, 1) := by decide +kernel
theorem dX6_named_73 : decode cX6_named 73 = .ok (.invokestatic 116, 3) := by decide +kernel
theorem dX6_named_76 : decode cX6_named 76 = .ok (.invokestatic 95, 3) := by decide +kernel
theorem dX6_named_79 : decode cX6_named 79 = .ok (.areturn, 1) := by decide +kernel
theorem dX6_named_80 : decode cX6_named 80 = .ok (.aload_n 0, 1) := by decide +kernel
theorem dX6_named_81 : decode cX6_named 81 = .ok (.dup, 1) := by decide +kernel
theorem dX6_named_82 : decode cX6_named 82 = .ok (.getfield 18, 3) := by decide +kernel
theorem dX6_named_85 : decode cX6_named 85 = .ok (.iconst 1, 1) := by decide +kernel
theorem dX6_named_86 : decode cX6_named 86 = .ok (.iadd, 1) := by decide +kernel
theorem dX6_named_87 : decode cX6_named 87 = .ok (.putfield 18, 3) := by decide +kernel
theorem dX6_named_90 : decode cX6_named 90 = .ok (.invokestatic 122, 3) := by decide +kernel
theorem dX6_named_93 : decode cX6_named 93 = .ok (.invokestatic 95, 3) := by decide +kernel
theorem dX6_named_96 : decode cX6_named 96 = .ok (.areturn, 1) := by decide +kernel
theorem dX6_named_97 : decode cX6_named 97 = .ok (.aload_n 0, 1) := by decide +kernel
theorem dX6_named_98 : decode cX6_named 98 = .ok (.invokestatic 126, 3) := by decide +kernel
theorem dX6_named_101 : decode cX6_named 101 = .ok (.iload_n 1, 1) := by decide +kernel
theorem dX6_named_102 : decode cX6_named 102 = .ok (.invokevirtual 84, 3) := by decide +kernel
theorem dX6_named_105 : decode cX6_named 105 = .ok (.areturn, 1) := by decide +kernel
theorem dX6_member_0 : decode cX6_member 0 = .ok (.aload_n 0, 1) := by decide +kernel
theorem dX6_member_1 : decode cX6_member 1 = .ok (.invokevirtual 99, 3) := by decide +kernel
theorem dX6_member_4 : decode cX6_member 4 = .ok (.istore_n 3, 1) := by decide +kernel
theorem dX6_member_5 : decode cX6_member 5 = .ok (.aload_n 0, 1) := by decide +kernel
theorem dX6_member_6 : decode cX6_member 6 = .ok (.bipush 40, 2) := by decide +kernel
theorem dX6_member_8 : decode cX6_member 8 = .ok (.invokevirtual 63, 3) := by decide +kernel
theorem dX6_member_11 : decode cX6_member 11 = .ok (.ifCond .ne 9, 3) := by decide +kernel
theorem dX6_member_14 : decode cX6_member 14 = .ok (.aload_n 1, 1) := by decide +kernel
theorem dX6_member_15 : decode cX6_member 15 = .ok (.iload_n 3, 1) := by decide +kernel
theorem dX6_member_16 : decode cX6_member 16 = .ok (.invokestatic 129, 3) := by decide +kernel
theorem dX6_member_19 : decode cX6_member 19 = .ok (.areturn, 1) := by decide +kernel
theorem dX6_member_20 : decode cX6_member 20 = .ok (.aload_n 0, 1) := by decide +kernel
theorem dX6_member_21 : decode cX6_member 21 = .ok (.bipush 41, 2) := by decide +kernel
theorem dX6_member_23 : decode cX6_member 23 = .ok (.invokevirtual 63, 3) := by decide +kernel
theorem dX6_member_26 : decode cX6_member 26 = .ok (.ifCond .eq 11, 3) := by decide +kernel
theorem dX6_member_29 : decode cX6_member 29 = .ok (.aload_n 1, 1) := by decide +kernel
theorem dX6_member_30 : decode cX6_member 30 = .ok (.iload_n 3, 1) := by decide +kernel
theorem dX6_member_31 : decode cX6_member 31 = .ok (.aconst_null, 1) := by decide +kernel
theorem dX6_member_32 : decode cX6_member 32 = .ok (.aconst_null, 1) := by decide +kernel
theorem dX6_member_33 : decode cX6_member 33 = .ok (.invokestatic 132, 3) := by decide +kernel
theorem dX6_member_36 : decode cX6_member 36 = .ok (.areturn, 1) := by decide +kernel
theorem dX6_member_37 : decode cX6_member 37 = .ok (.aload_n 0, 1) := by decide +kernel
theorem dX6_member_38 : decode cX6_member 38 = .ok (.iload_n 2, 1) := by decide +kernel
theorem dX6_member_39 : decode cX6_member 39 = .ok (.iconst 1, 1) := by decide +kernel
theorem dX6_member_40 : decode cX6_member 40 = .ok (.iadd, 1) := by decide +kernel
theorem dX6_member_41 : decode cX6_member 41 = .ok (.invokevirtual 39, 3) := by decide +kernel
theorem dX6_member_44 : decode cX6_member 44 = .ok (.astore 4, 2) := by decide +kernel
theorem dX6_member_46 : decode cX6_member 46 = .ok (.aload 4, 2) := by decide +kernel
theorem dX6_member_48 : decode cX6_member 48 = .ok (.ifnonnull 5, 3) := by decide +kernel
theorem dX6_member_51 : decode cX6_member 51 = .ok (.aconst_null, 1) := by decide +kernel
theorem dX6_member_52 : decode cX6_member 52 = .ok (.areturn, 1) := by decide +kernel
theorem dX6_member_53 : decode cX6_member 53 = .ok (.aconst_null, 1) := by decide +kernel
theorem dX6_member_54 : decode cX6_member 54 = .ok (.astore 5, 2) := by decide +kernel
theorem dX6_member_56 : decode cX6_member 56 = .ok (.aload_n 0, 1) := by decide +kernel
theorem dX6_member_57 : decode cX6_member 57 = .ok (.bipush 44, 2) := by decide +kernel
theorem dX6_member_59 : decode cX6_member 59 = .ok (.invokevirtual 63, 3) := by decide +kernel
theorem dX6_member_62 : decode cX6_member 62 = .ok (.ifCond .eq 19, 3) := by decide +kernel
theorem dX6_member_65 : decode cX6_member 65 = .ok (.aload_n 0, 1) := by decide +kernel
theorem dX6_member_66 : decode cX6_member 66 = .ok (.iload_n 2, 1) := by decide +kernel
theorem dX6_member_67 : decode cX6_member 67 = .ok (.iconst 1, 1) := by decide +kernel
theorem dX6_member_68 : decode cX6_member 68 = .ok (.iadd, 1) := by decide +kernel
theorem dX6_member_69 : decode cX6_member 69 = .ok (.invokevirtual 39, 3) := by decide +kernel
theorem dX6_member_72 : decode cX6_member 72 = .ok (.astore 5, 2) := by decide +kernel
theorem dX6_member_74 : decode cX6_member 74 = .ok (.aload 5, 2) := by decide +kernel
theorem dX6_member_76 : decode cX6_member 76 = .ok (.ifnonnull 5, 3) := by decide +kernel
theorem dX6_member_79 : decode cX6_member 79 = .ok (.aconst_null, 1) := by decide +kernel
theorem dX6_member_80 : decode cX6_member 80 = .ok (.areturn, 1) := by decide +kernel
theorem dX6_member_81 : decode cX6_member 81 = .ok (.aload_n 0, 1) := by decide +kernel
theorem dX6_member_82 : decode cX6_member 82 = .ok (.bipush 41, 2) := by decide +kernel
theorem dX6_member_84 : decode cX6_member 84 = .ok (.invokevirtual 63, 3) := by decide +kernel
theorem dX6_member_87 : decode cX6_member 87 = .ok (.ifCond .eq 15, 3) := by decide +kernel
theorem dX6_member_90 : decode cX6_member 90 = .ok (.aload_n 1, 1) := by decide +kernel
theorem dX6_member_91 : decode cX6_member 91 = .ok (.iload_n 3, 1) := by decide +kernel
theorem dX6_member_92 : decode cX6_member 92 = .ok (.aload 4, 2) := by decide +kernel
theorem dX6_member_94 : decode cX6_member 94 = .ok (.aload 5, 2) := by decide +kernel
theorem dX6_member_96 : decode cX6_member 96 = .ok (.invokestatic 132, 3) := by decide +kernel
theorem dX6_member_99 : decode cX6_member 99 = .ok (.goto 8, 3) := by decide +kernel
theorem dX6_member_102 : decode cX6_member 102 = .ok (.aload_n 0, 1) := by decide +kernel
theorem dX6_member_103 : decode cX6_member 103 = .ok (.iconst 2, 1) := by decide +kernel
theorem dX6_member_104 : decode cX6_member 104 = .ok (.invokevirtual 56, 3) := by decide +kernel
theorem dX6_member_107 : decode cX6_member 107 = .ok (.areturn, 1) := by decide +kernel
theorem dX6_kind_0 : decode cX6_kind 0 = .ok (.aload_n 0, 1) := by decide +kernel
theorem dX6_kind_1 : decode cX6_kind 1 = .ok (.getfield 12, 3) := by decide +kernel
theorem dX6_kind_4 : decode cX6_kind 4 = .ok (.aload_n 0, 1) := by decide +kernel
theorem dX6_kind_5 : decode cX6_kind 5 = .ok (.getfield 18, 3) := by decide +kernel
theorem dX6_kind_8 : decode cX6_kind 8 = .ok (.invokevirtual 136, 3) := by decide +kernel
theorem dX6_kind_11 : decode cX6_kind 11 = .ok (.ireturn, 1) := by decide +kernel
theorem dX6_takes_0 : decode cX6_takes 0 = .ok (.aload_n 0, 1) := by decide +kernel
theorem dX6_takes_1 : decode cX6_takes 1 = .ok (.invokevirtual 43, 3) := by decide +kernel
theorem dX6_takes_4 : decode cX6_takes 4 = .ok (.iload_n 1, 1) := by decide +kernel
theorem dX6_takes_5 : decode cX6_takes 5 = .ok (.if_icmp .eq 5, 3) := by decide +kernel
theorem dX6_takes_8 : decode cX6_takes 8 = .ok (.iconst 0, 1) := by decide +kernel
theorem dX6_takes_9 : decode cX6_takes 9 = .ok (.ireturn, 1) := by decide +kernel
theorem dX6_takes_10 : decode cX6_takes 10 = .ok (.aload_n 0, 1) := by decide +kernel
theorem dX6_takes_11 : decode cX6_takes 11 = .ok (.dup, 1) := by decide +kernel
theorem dX6_takes_12 : decode cX6_takes 12 = .ok (.getfield 18, 3) := by decide +kernel
theorem dX6_takes_15 : decode cX6_takes 15 = .ok (.iconst 1, 1) := by decide +kernel
theorem dX6_takes_16 : decode cX6_takes 16 = .ok (.iadd, 1) := by decide +kernel
theorem dX6_takes_17 : decode cX6_takes 17 = .ok (.putfield 18, 3) := by decide +kernel
theorem dX6_takes_20 : decode cX6_takes 20 = .ok (.iconst 1, 1) := by decide +kernel
theorem dX6_takes_21 : decode cX6_takes 21 = .ok (.ireturn, 1) := by decide +kernel
theorem dX6_takeName_0 : decode cX6_takeName 0 = .ok (.aload_n 0, 1) := by decide +kernel
theorem dX6_takeName_1 : decode cX6_takeName 1 = .ok (.dup, 1) := by decide +kernel
theorem dX6_takeName_2 : decode cX6_takeName 2 = .ok (.getfield 18, 3) := by decide +kernel
theorem dX6_takeName_5 : decode cX6_takeName 5 = .ok (.iconst 1, 1) := by decide +kernel
theorem dX6_takeName_6 : decode cX6_takeName 6 = .ok (.iadd, 1) := by decide +kernel
theorem dX6_takeName_7 : decode cX6_takeName 7 = .ok (.putfield 18, 3) := by decide +kernel
theorem dX6_takeName_10 : decode cX6_takeName 10 = .ok (.aload_n 0, 1) := by decide +kernel
theorem dX6_takeName_11 : decode cX6_takeName 11 = .ok (.getfield 12, 3) := by decide +kernel
theorem dX6_takeName_14 : decode cX6_takeName 14 = .ok (.aload_n 0, 1) := by decide +kernel
theorem dX6_takeName_15 : decode cX6_takeName 15 = .ok (.getfield 18, 3) := by decide +kernel
theorem dX6_takeName_18 : decode cX6_takeName 18 = .ok (.iconst 1, 1) := by decide +kernel
theorem dX6_takeName_19 : decode cX6_takeName 19 = .ok (.isub, 1) := by decide +kernel
theorem dX6_takeName_20 : decode cX6_takeName 20 = .ok (.invokevirtual 113, 3) := by decide +kernel
theorem dX6_takeName_23 : decode cX6_takeName 23 = .ok (.ireturn, 1) := by decide +kernel
theorem dX6_refuse_0 : decode cX6_refuse 0 = .ok (.aload_n 0, 1) := by decide +kernel
theorem dX6_refuse_1 : decode cX6_refuse 1 = .ok (.iload_n 1, 1) := by decide +kernel
theorem dX6_refuse_2 : decode cX6_refuse 2 = .ok (.putfield 22, 3) := by decide +kernel
theorem dX6_refuse_5 : decode cX6_refuse 5 = .ok (.aload_n 0, 1) := by decide +kernel
theorem dX6_refuse_6 : decode cX6_refuse 6 = .ok (.aload_n 0, 1) := by decide +kernel
theorem dX6_refuse_7 : decode cX6_refuse 7 = .ok (.getfield 12, 3) := by decide +kernel
theorem dX6_refuse_10 : decode cX6_refuse 10 = .ok (.aload_n 0, 1) := by decide +kernel
theorem dX6_refuse_11 : decode cX6_refuse 11 = .ok (.getfield 18, 3) := by decide +kernel
theorem dX6_refuse_14 : decode cX6_refuse 14 = .ok (.invokevirtual 139, 3) := by decide +kernel
theorem dX6_refuse_17 : decode cX6_refuse 17 = .ok (.putfield 29, 3) := by decide +kernel
theorem dX6_refuse_20 : decode cX6_refuse 20 = .ok (.aconst_null, 1) := by decide +kernel
theorem dX6_refuse_21 : decode cX6_refuse 21 = .ok (.areturn, 1) := by decide +kernel
theorem dX7_init_0 : decode cX7_init 0 = .ok (.aload_n 0, 1) := by decide +kernel
theorem dX7_init_1 : decode cX7_init 1 = .ok (.invokespecial 1, 3) := by decide +kernel
theorem dX7_init_4 : decode cX7_init 4 = .ok (.aload_n 0, 1) := by decide +kernel
theorem dX7_init_5 : decode cX7_init 5 = .ok (.iload_n 1, 1) := by decide +kernel
theorem dX7_init_6 : decode cX7_init 6 = .ok (.putfield 7, 3) := by decide +kernel
theorem dX7_init_9 : decode cX7_init 9 = .ok (.aload_n 0, 1) := by decide +kernel
theorem dX7_init_10 : decode cX7_init 10 = .ok (.iload_n 2, 1) := by decide +kernel
theorem dX7_init_11 : decode cX7_init 11 = .ok (.putfield 13, 3) := by decide +kernel
theorem dX7_init_14 : decode cX7_init 14 = .ok (.aload_n 0, 1) := by decide +kernel
theorem dX7_init_15 : decode cX7_init 15 = .ok (.iload_n 3, 1) := by decide +kernel
theorem dX7_init_16 : decode cX7_init 16 = .ok (.putfield 16, 3) := by decide +kernel
theorem dX7_init_19 : decode cX7_init 19 = .ok (.aload_n 0, 1) := by decide +kernel
theorem dX7_init_20 : decode cX7_init 20 = .ok (.iload_n 2, 1) := by decide +kernel
theorem dX7_init_21 : decode cX7_init 21 = .ok (.ifCond .ne 7, 3) := by decide +kernel
theorem dX7_init_24 : decode cX7_init 24 = .ok (.iconst 0, 1) := by decide +kernel
theorem dX7_init_25 : decode cX7_init 25 = .ok (.goto 12, 3) := by decide +kernel
theorem dX7_init_28 : decode cX7_init 28 = .ok (.iload_n 3, 1) := by decide +kernel
theorem dX7_init_29 : decode cX7_init 29 = .ok (.ifCond .ne 7, 3) := by decide +kernel
theorem dX7_init_32 : decode cX7_init 32 = .ok (.iconst 1, 1) := by decide +kernel
theorem dX7_init_33 : decode cX7_init 33 = .ok (.goto 4, 3) := by decide +kernel
theorem dX7_init_36 : decode cX7_init 36 = .ok (.iconst 2, 1) := by decide +kernel
theorem dX7_init_37 : decode cX7_init 37 = .ok (.putfield 19, 3) := by decide +kernel
theorem dX7_init_40 : decode cX7_init 40 = .ok (.aload_n 0, 1) := by decide +kernel
theorem dX7_init_41 : decode cX7_init 41 = .ok (.iload 4, 2) := by decide +kernel
theorem dX7_init_43 : decode cX7_init 43 = .ok (.putfield 22, 3) := by decide +kernel
theorem dX7_init_46 : decode cX7_init 46 = .ok (.aload_n 0, 1) := by decide +kernel
theorem dX7_init_47 : decode cX7_init 47 = .ok (.iload 5, 2) := by decide +kernel
theorem dX7_init_49 : decode cX7_init 49 = .ok (.putfield 25, 3) := by decide +kernel
theorem dX7_init_52 : decode cX7_init 52 = .ok (.return_, 1) := by decide +kernel
theorem dX8_init_0 : decode cX8_init 0 = .ok (.aload_n 0, 1) := by decide +kernel
theorem dX8_init_1 : decode cX8_init 1 = .ok (.invokespecial 3, 3) := by decide +kernel
theorem dX8_init_4 : decode cX8_init 4 = .ok (.aload_n 0, 1) := by decide +kernel
theorem dX8_init_5 : decode cX8_init 5 = .ok (.invokestatic 9, 3) := by decide +kernel
theorem dX8_init_8 : decode cX8_init 8 = .ok (.putfield 15, 3) := by decide +kernel
theorem dX8_init_11 : decode cX8_init 11 = .ok (.aload_n 0, 1) := by decide +kernel
theorem dX8_init_12 : decode cX8_init 12 = .ok (.new 21, 3) := by decide +kernel
theorem dX8_init_15 : decode cX8_init 15 = .ok (.dup, 1) := by decide +kernel
theorem dX8_init_16 : decode cX8_init 16 = .ok (.invokespecial 23, 3) := by decide +kernel
theorem dX8_init_19 : decode cX8_init 19 = .ok (.putfield 24, 3) := by decide +kernel
theorem dX8_init_22 : decode cX8_init 22 = .ok (.aload_n 0, 1) := by decide +kernel
theorem dX8_init_23 : decode cX8_init 23 = .ok (.new 28, 3) := by decide +kernel
theorem dX8_init_26 : decode cX8_init 26 = .ok (.dup, 1) := by decide +kernel
theorem dX8_init_27 : decode cX8_init 27 = .ok (.invokespecial 30, 3) := by decide +kernel
theorem dX8_init_30 : decode cX8_init 30 = .ok (.putfield 31, 3) := by decide +kernel
theorem dX8_init_33 : decode cX8_init 33 = .ok (.aload_n 0, 1) := by decide +kernel
theorem dX8_init_34 : decode cX8_init 34 = .ok (.bipush 12, 2) := by decide +kernel
theorem dX8_init_36 : decode cX8_init 36 = .ok (.newarray .int, 2) := by decide +kernel
theorem dX8_init_38 : decode cX8_init 38 = .ok (.putfield 35, 3) := by decide +kernel
theorem dX8_init_41 : decode cX8_init 41 = .ok (.aload_n 0, 1) := by decide +kernel
theorem dX8_init_42 : decode cX8_init 42 = .ok (.bipush 12, 2) := by decide +kernel
theorem dX8_init_44 : decode cX8_init 44 = .ok (.anewarray 10, 3) := by decide +kernel
theorem dX8_init_47 : decode cX8_init 47 = .ok (.putfield 39, 3) := by decide +kernel
theorem dX8_init_50 : decode cX8_init 50 = .ok (.aload_n 0, 1) := by decide +kernel
theorem dX8_init_51 : decode cX8_init 51 = .ok (.aload_n 0, 1) := by decide +kernel
theorem dX8_init_52 : decode cX8_init 52 = .ok (.getfield 15, 3) := by decide +kernel
theorem dX8_init_55 : decode cX8_init 55 = .ok (.putfield 43, 3) := by decide +kernel
theorem dX8_init_58 : decode cX8_init 58 = .ok (.return_, 1) := by decide +kernel
theorem dX8_begin_0 : decode cX8_begin 0 = .ok (.aload_n 0, 1) := by decide +kernel
theorem dX8_begin_1 : decode cX8_begin 1 = .ok (.aload_n 1, 1) := by decide +kernel
theorem dX8_begin_2 : decode cX8_begin 2 = .ok (.putfield 43, 3) := by decide +kernel
theorem dX8_begin_5 : decode cX8_begin 5 = .ok (.aload_n 0, 1) := by decide +kernel
theorem dX8_begin_6 : decode cX8_begin 6 = .ok (.iconst 0, 1) := by decide +kernel
theorem dX8_begin_7 : decode cX8_begin 7 = .ok (.putfield 46, 3) := by decide +kernel
theorem dX8_begin_10 : decode cX8_begin 10 = .ok (.return_, 1) := by decide +kernel
theorem dX8_fail_0 : decode cX8_fail 0 = .ok (.aload_n 0, 1) := by decide +kernel
theorem dX8_fail_1 : decode cX8_fail 1 = .ok (.iload_n 1, 1) := by decide +kernel
theorem dX8_fail_2 : decode cX8_fail 2 = .ok (.putfield 46, 3) := by decide +kernel
theorem dX8_fail_5 : decode cX8_fail 5 = .ok (.aconst_null, 1) := by decide +kernel
theorem dX8_fail_6 : decode cX8_fail 6 = .ok (.areturn, 1) := by decide +kernel
theorem dX8_eval_0 : decode cX8_eval 0 = .ok (.aload_n 1, 1) := by decide +kernel
theorem dX8_eval_1 : decode cX8_eval 1 = .ok (.ifnull 9, 3) := by decide +kernel
theorem dX8_eval_4 : decode cX8_eval 4 = .ok (.iload_n 2, 1) := by decide +kernel
theorem dX8_eval_5 : decode cX8_eval 5 = .ok (.bipush 40, 2) := by decide +kernel
theorem dX8_eval_7 : decode cX8_eval 7 = .ok (.if_icmp .le 9, 3) := by decide +kernel
theorem dX8_eval_10 : decode cX8_eval 10 = .ok (.aload_n 0, 1) := by decide +kernel
theorem dX8_eval_11 : decode cX8_eval 11 = .ok (.iconst 1, 1) := by decide +kernel
theorem dX8_eval_12 : decode cX8_eval 12 = .ok (.invokevirtual 50, 3) := by decide +kernel
theorem dX8_eval_15 : decode cX8_eval 15 = .ok (.areturn, 1) := by decide +kernel
theorem dX8_eval_16 : decode cX8_eval 16 = .ok (.aload_n 1, 1) := by decide +kernel
theorem dX8_eval_17 : decode cX8_eval 17 = .ok (.getfield 54, 3) := by decide +kernel
theorem dX8_eval_20 : decode cX8_eval 20 = .ok (.lookupswitch 218 #[(1, 108), (2, 113), (3, 118), (4, 127), (5, 151), (6, 158), (33, 174), (61, 211), (63, 197), (9766, 190), (16186, 204), (31868, 190)], 108) := by decide +kernel
theorem dX8_eval_128 : decode cX8_eval 128 = .ok (.aload_n 1, 1) := by decide +kernel
theorem dX8_eval_129 : decode cX8_eval 129 = .ok (.getfield 59, 3) := by decide +kernel
theorem dX8_eval_132 : decode cX8_eval 132 = .ok (.areturn, 1) := by decide +kernel
theorem dX8_eval_133 : decode cX8_eval 133 = .ok (.aload_n 0, 1) := by decide +kernel
theorem dX8_eval_134 : decode cX8_eval 134 = .ok (.getfield 43, 3) := by decide +kernel
theorem dX8_eval_137 : decode cX8_eval 137 = .ok (.areturn, 1) := by decide +kernel
theorem dX8_eval_138 : decode cX8_eval 138 = .ok (.aload_n 0, 1) := by decide +kernel
theorem dX8_eval_139 : decode cX8_eval 139 = .ok (.aload_n 1, 1) := by decide +kernel
theorem dX8_eval_140 : decode cX8_eval 140 = .ok (.getfield 62, 3) := by decide +kernel
theorem dX8_eval_143 : decode cX8_eval 143 = .ok (.invokevirtual 65, 3) := by decide +kernel
theorem dX8_eval_146 : decode cX8_eval 146 = .ok (.areturn, 1) := by decide +kernel
theorem dX8_eval_147 : decode cX8_eval 147 = .ok (.aload_n 0, 1) := by decide +kernel
theorem dX8_eval_148 : decode cX8_eval 148 = .ok (.aload_n 0, 1) := by decide +kernel
theorem dX8_eval_149 : decode cX8_eval 149 = .ok (.aload_n 1, 1) := by decide +kernel
theorem dX8_eval_150 : decode cX8_eval 150 = .ok (.getfield 68, 3) := by decide +kernel
theorem dX8_eval_153 : decode cX8_eval 153 = .ok (.iload_n 2, 1) := by decide +kernel
theorem dX8_eval_154 : decode cX8_eval 154 = .ok (.iconst 1, 1) := by decide +kernel
theorem dX8_eval_155 : decode cX8_eval 155 = .ok (.iadd, 1) := by decide +kernel
theorem dX8_eval_156 : decode cX8_eval 156 = .ok (.invokevirtual 72, 3) := by decide +kernel
theorem dX8_eval_159 : decode cX8_eval 159 = .ok (.aload_n 1, 1) := by decide +kernel
theorem dX8_eval_160 : decode cX8_eval 160 = .ok (.getfield 62, 3) := by decide +kernel
theorem dX8_eval_163 : decode cX8_eval 163 = .ok (.aload_n 1, 1) := by decide +kernel
theorem dX8_eval_164 : decode cX8_eval 164 = .ok (.getfield 76, 3) := by decide +kernel
theorem dX8_eval_167 : decode cX8_eval 167 = .ok (.invokevirtual 80, 3) := by decide +kernel
theorem dX8_eval_170 : decode cX8_eval 170 = .ok (.areturn, 1) := by decide +kernel
theorem dX8_eval_171 : decode cX8_eval 171 = .ok (.aload_n 0, 1) := by decide +kernel
theorem dX8_eval_172 : decode cX8_eval 172 = .ok (.aload_n 1, 1) := by decide +kernel
theorem dX8_eval_173 : decode cX8_eval 173 = .ok (.iload_n 2, 1) := by decide +kernel
theorem dX8_eval_174 : decode cX8_eval 174 = .ok (.invokevirtual 84, 3) := by decide +kernel
theorem dX8_eval_177 : decode cX8_eval 177 = .ok (.areturn, 1) := by decide +kernel
theorem dX8_eval_178 : decode cX8_eval 178 = .ok (.aload_n 0, 1) := by decide +kernel
theorem dX8_eval_179 : decode cX8_eval 179 = .ok (.aload_n 0, 1) := by decide +kernel
theorem dX8_eval_180 : decode cX8_eval 180 = .ok (.aload_n 1, 1) := by decide +kernel
theorem dX8_eval_181 : decode cX8_eval 181 = .ok (.getfield 68, 3) := by decide +kernel
theorem dX8_eval_184 : decode cX8_eval 184 = .ok (.iload_n 2, 1) := by decide +kernel
theorem dX8_eval_185 : decode cX8_eval 185 = .ok (.iconst 1, 1) := by decide +kernel
theorem dX8_eval_186 : decode cX8_eval 186 = .ok (.iadd, 1) := by decide +kernel
theorem dX8_eval_187 : decode cX8_eval 187 = .ok (.invokevirtual 72, 3) := by decide +kernel
theorem dX8_eval_190 : decode cX8_eval 190 = .ok (.invokevirtual 87, 3) := by decide +kernel
theorem dX8_eval_193 : decode cX8_eval 193 = .ok (.areturn, 1) := by decide +kernel
theorem dX8_eval_194 : decode cX8_eval 194 = .ok (.aload_n 0, 1) := by decide +kernel
theorem dX8_eval_195 : decode cX8_eval 195 = .ok (.aload_n 0, 1) := by decide +kernel
theorem dX8_eval_196 : decode cX8_eval 196 = .ok (.aload_n 1, 1) := by decide +kernel
theorem dX8_eval_197 : decode cX8_eval 197 = .ok (.getfield 68, 3) := by decide +kernel
theorem dX8_eval_200 : decode cX8_eval 200 = .ok (.iload_n 2, 1) := by decide +kernel
theorem dX8_eval_201 : decode cX8_eval 201 = .ok (.iconst 1, 1) := by decide +kernel
theorem dX8_eval_202 : decode cX8_eval 202 = .ok (.iadd, 1) := by decide +kernel
theorem dX8_eval_203 : decode cX8_eval 203 = .ok (.invokevirtual 72, 3) := by decide +kernel
theorem dX8_eval_206 : decode cX8_eval 206 = .ok (.invokevirtual 91, 3) := by decide +kernel
theorem dX8_eval_209 : decode cX8_eval 209 = .ok (.areturn, 1) := by decide +kernel
theorem dX8_eval_210 : decode cX8_eval 210 = .ok (.aload_n 0, 1) := by decide +kernel
theorem dX8_eval_211 : decode cX8_eval 211 = .ok (.aload_n 1, 1) := by decide +kernel
theorem dX8_eval_212 : decode cX8_eval 212 = .ok (.iload_n 2, 1) := by decide +kernel
theorem dX8_eval_213 : decode cX8_eval 213 = .ok (.invokevirtual 94, 3) := by decide +kernel
theorem dX8_eval_216 : decode cX8_eval 216 = .ok (.areturn, 1) := by decide +kernel
theorem dX8_eval_217 : decode cX8_eval 217 = .ok (.aload_n 0, 1) := by decide +kernel
theorem dX8_eval_218 : decode cX8_eval 218 = .ok (.aload_n 1, 1) := by decide +kernel
theorem dX8_eval_219 : decode cX8_eval 219 = .ok (.iload_n 2, 1) := by decide +kernel
theorem dX8_eval_220 : decode cX8_eval 220 = .ok (.invokevirtual 97, 3) := by decide +kernel
theorem dX8_eval_223 : decode cX8_eval 223 = .ok (.areturn, 1) := by decide +kernel
theorem dX8_eval_224 : decode cX8_eval 224 = .ok (.aload_n 0, 1) := by decide +kernel
theorem dX8_eval_225 : decode cX8_eval 225 = .ok (.aload_n 1, 1) := by decide +kernel
theorem dX8_eval_226 : decode cX8_eval 226 = .ok (.iload_n 2, 1) := by decide +kernel
theorem dX8_eval_227 : decode cX8_eval 227 = .ok (.invokevirtual 100, 3) := by decide +kernel
theorem dX8_eval_230 : decode cX8_eval 230 = .ok (.areturn, 1) := by decide +kernel
theorem dX8_eval_231 : decode cX8_eval 231 = .ok (.aload_n 0, 1) := by decide +kernel
theorem dX8_eval_232 : decode cX8_eval 232 = .ok (.aload_n 1, 1) := by decide +kernel
theorem dX8_eval_233 : decode cX8_eval 233 = .ok (.iload_n 2, 1) := by decide +kernel
theorem dX8_eval_234 : decode cX8_eval 234 = .ok (.invokevirtual 103, 3) := by decide +kernel
theorem dX8_eval_237 : decode cX8_eval 237 = .ok (.areturn, 1) := by decide +kernel
theorem dX8_eval_238 : decode cX8_eval 238 = .ok (.aload_n 0, 1) := by decide +kernel
theorem dX8_eval_239 : decode cX8_eval 239 = .ok (.aload_n 1, 1) := by decide +kernel
theorem dX8_eval_240 : decode cX8_eval 240 = .ok (.iload_n 2, 1) := by decide +kernel
theorem dX8_eval_241 : decode cX8_eval 241 = .ok (.invokevirtual 106, 3) := by decide +kernel
theorem dX8_eval_244 : decode cX8_eval 244 = .ok (.areturn, 1) := by decide +kernel
theorem dX8_property_0 : decode cX8_property 0 = .ok (.aload_n 1, 1) := by decide +kernel
theorem dX8_property_1 : decode cX8_property 1 = .ok (.ifnonnull 5, 3) := by decide +kernel
theorem dX8_property_4 : decode cX8_property 4 = .ok (.aconst_null, 1) := by decide +kernel
theorem dX8_property_5 : decode cX8_property 5 = .ok (.areturn, 1) := by decide +kernel
theorem dX8_property_6 : decode cX8_property 6 = .ok (.aload_n 1, 1) := by decide +kernel
theorem dX8_property_7 : decode cX8_property 7 = .ok (.getfield 109, 3) := by decide +kernel
theorem dX8_property_10 : decode cX8_property 10 = .ok (.ifCond .ne 20, 3) := by decide +kernel
theorem dX8_property_13 : decode cX8_property 13 = .ok (.iload_n 3, 1) := by decide +kernel
theorem dX8_property_14 : decode cX8_property 14 = .ok (.ifCond .eq 10, 3) := by decide +kernel
theorem dX8_property_17 : decode cX8_property 17 = .ok (.aload_n 0, 1) := by decide +kernel
theorem dX8_property_18 : decode cX8_property 18 = .ok (.getfield 15, 3) := by decide +kernel
theorem dX8_property_21 : decode cX8_property 21 = .ok (.goto 8, 3) := by decide +kernel
theorem dX8_property_24 : decode cX8_property 24 = .ok (.aload_n 0, 1) := by decide +kernel
theorem dX8_property_25 : decode cX8_property 25 = .ok (.iconst 4, 1) := by decide +kernel
theorem dX8_property_26 : decode cX8_property 26 = .ok (.invokevirtual 50, 3) := by decide +kernel
theorem dX8_property_29 : decode cX8_property 29 = .ok (.areturn, 1) := by decide +kernel
theorem dX8_property_30 : decode cX8_property 30 = .ok (.aload_n 1, 1) := by decide +kernel
theorem dX8_property_31 : decode cX8_property 31 = .ok (.getfield 109, 3) := by decide +kernel
theorem dX8_property_34 : decode cX8_property 34 = .ok (.iconst 4, 1) := by decide +kernel
theorem dX8_property_35 : decode cX8_property 35 = .ok (.if_icmp .ne 21, 3) := by decide +kernel
theorem dX8_property_38 : decode cX8_property 38 = .ok (.iload_n 2, 1) := by decide +kernel
theorem dX8_property_39 : decode cX8_property 39 = .ok (.sipush 8897, 3) := by decide +kernel
theorem dX8_property_42 : decode cX8_property 42 = .ok (.if_icmp .ne 14, 3) := by decide +kernel
theorem dX8_property_45 : decode cX8_property 45 = .ok (.aload_n 1, 1) := by decide +kernel
theorem dX8_property_46 : decode cX8_property 46 = .ok (.getfield 112, 3) := by decide +kernel
theorem dX8_property_49 : decode cX8_property 49 = .ok (.invokevirtual 116, 3) := by decide +kernel
theorem dX8_property_52 : decode cX8_property 52 = .ok (.invokestatic 122, 3) := by decide +kernel
theorem dX8_property_55 : decode cX8_property 55 = .ok (.areturn, 1) := by decide +kernel
theorem dX8_property_56 : decode cX8_property 56 = .ok (.aload_n 1, 1) := by decide +kernel
theorem dX8_property_57 : decode cX8_property 57 = .ok (.getfield 125, 3) := by decide +kernel
theorem dX8_property_60 : decode cX8_property 60 = .ok (.ifnonnull 7, 3) := by decide +kernel
theorem dX8_property_63 : decode cX8_property 63 = .ok (.aconst_null, 1) := by decide +kernel
theorem dX8_property_64 : decode cX8_property 64 = .ok (.goto 11, 3) := by decide +kernel
theorem dX8_property_67 : decode cX8_property 67 = .ok (.aload_n 1, 1) := by decide +kernel
theorem dX8_property_68 : decode cX8_property 68 = .ok (.getfield 125, 3) := by decide +kernel
theorem dX8_property_71 : decode cX8_property 71 = .ok (.iload_n 2, 1) := by decide +kernel
theorem dX8_property_72 : decode cX8_property 72 = .ok (.invokevirtual 129, 3) := by decide +kernel
theorem dX8_property_75 : decode cX8_property 75 = .ok (.astore 4, 2) := by decide +kernel
theorem dX8_property_77 : decode cX8_property 77 = .ok (.aload 4, 2) := by decide +kernel
theorem dX8_property_79 : decode cX8_property 79 = .ok (.ifnonnull 11, 3) := by decide +kernel
theorem dX8_property_82 : decode cX8_property 82 = .ok (.aload_n 0, 1) := by decide +kernel
theorem dX8_property_83 : decode cX8_property 83 = .ok (.iconst 5, 1) := by decide +kernel
theorem dX8_property_84 : decode cX8_property 84 = .ok (.invokevirtual 50, 3) := by decide +kernel
theorem dX8_property_87 : decode cX8_property 87 = .ok (.goto 5, 3) := by decide +kernel
theorem dX8_property_90 : decode cX8_property 90 = .ok (.aload 4, 2) := by decide +kernel
theorem dX8_property_92 : decode cX8_property 92 = .ok (.areturn, 1) := by decide +kernel
theorem dX8_call_0 : decode cX8_call 0 = .ok (.aload_n 0, 1) := by decide +kernel
theorem dX8_call_1 : decode cX8_call 1 = .ok (.aload_n 1, 1) := by decide +kernel
theorem dX8_call_2 : decode cX8_call 2 = .ok (.getfield 68, 3) := by decide +kernel
theorem dX8_call_5 : decode cX8_call 5 = .ok (.iload_n 2, 1) := by decide +kernel
theorem dX8_call_6 : decode cX8_call 6 = .ok (.iconst 1, 1) := by decide +kernel
theorem dX8_call_7 : decode cX8_call 7 = .ok (.iadd, 1) := by decide +kernel
theorem dX8_call_8 : decode cX8_call 8 = .ok (.invokevirtual 72, 3) := by decide +kernel
theorem dX8_call_11 : decode cX8_call 11 = .ok (.astore_n 3, 1) := by decide +kernel
theorem dX8_call_12 : decode cX8_call 12 = .ok (.aload_n 3, 1) := by decide +kernel
theorem dX8_call_13 : decode cX8_call 13 = .ok (.ifnonnull 5, 3) := by decide +kernel
theorem dX8_call_16 : decode cX8_call 16 = .ok (.aconst_null, 1) := by decide +kernel
theorem dX8_call_17 : decode cX8_call 17 = .ok (.areturn, 1) := by decide +kernel
theorem dX8_call_18 : decode cX8_call 18 = .ok (.aload_n 3, 1) := by decide +kernel
theorem dX8_call_19 : decode cX8_call 19 = .ok (.getfield 109, 3) := by decide +kernel
theorem dX8_call_22 : decode cX8_call 22 = .ok (.ifCond .ne 23, 3) := by decide +kernel
theorem dX8_call_25 : decode cX8_call 25 = .ok (.aload_n 1, 1) := by decide +kernel
theorem dX8_call_26 : decode cX8_call 26 = .ok (.getfield 76, 3) := by decide +kernel
theorem dX8_call_29 : decode cX8_call 29 = .ok (.ifCond .eq 10, 3) := by decide +kernel
theorem dX8_call_32 : decode cX8_call 32 = .ok (.aload_n 0, 1) := by decide +kernel
theorem dX8_call_33 : decode cX8_call 33 = .ok (.getfield 15, 3) := by decide +kernel
theorem dX8_call_36 : decode cX8_call 36 = .ok (.goto 8, 3) := by decide +kernel
theorem dX8_call_39 : decode cX8_call 39 = .ok (.aload_n 0, 1) := by decide +kernel
theorem dX8_call_40 : decode cX8_call 40 = .ok (.iconst 4, 1) := by decide +kernel
theorem dX8_call_41 : decode cX8_call 41 = .ok (.invokevirtual 50, 3) := by decide +kernel
theorem dX8_call_44 : decode cX8_call 44 = .ok (.areturn, 1) := by decide +kernel
theorem dX8_call_45 : decode cX8_call 45 = .ok (.aload_n 1, 1) := by decide +kernel
theorem dX8_call_46 : decode cX8_call 46 = .ok (.getfield 134, 3) := by decide +kernel
theorem dX8_call_49 : decode cX8_call 49 = .ok (.ifnonnull 10, 3) := by decide +kernel
theorem dX8_call_52 : decode cX8_call 52 = .ok (.aload_n 0, 1) := by decide +kernel
theorem dX8_call_53 : decode cX8_call 53 = .ok (.getfield 15, 3) := by decide +kernel
theorem dX8_call_56 : decode cX8_call 56 = .ok (.goto 14, 3) := by decide +kernel
theorem dX8_call_59 : decode cX8_call 59 = .ok (.aload_n 0, 1) := by decide +kernel
theorem dX8_call_60 : decode cX8_call 60 = .ok (.aload_n 1, 1) := by decide +kernel
theorem dX8_call_61 : decode cX8_call 61 = .ok (.getfield 134, 3) := by decide +kernel
theorem dX8_call_64 : decode cX8_call 64 = .ok (.iload_n 2, 1) := by decide +kernel
theorem dX8_call_65 : decode cX8_call 65 = .ok (.iconst 1, 1) := by decide +kernel
theorem dX8_call_66 : decode cX8_call 66 = .ok (.iadd, 1) := by decide +kernel
theorem dX8_call_67 : decode cX8_call 67 = .ok (.invokevirtual 72, 3) := by decide +kernel
theorem dX8_call_70 : decode cX8_call 70 = .ok (.astore 4, 2) := by decide +kernel
theorem dX8_call_72 : decode cX8_call 72 = .ok (.aload 4, 2) := by decide +kernel
theorem dX8_call_74 : decode cX8_call 74 = .ok (.ifnonnull 5, 3) := by decide +kernel
theorem dX8_call_77 : decode cX8_call 77 = .ok (.aconst_null, 1) := by decide +kernel
theorem dX8_call_78 : decode cX8_call 78 = .ok (.areturn, 1) := by decide +kernel
theorem dX8_call_79 : decode cX8_call 79 = .ok (.aload_n 1, 1) := by decide +kernel
theorem dX8_call_80 : decode cX8_call 80 = .ok (.getfield 137, 3) := by decide +kernel
theorem dX8_call_83 : decode cX8_call 83 = .ok (.ifnonnull 10, 3) := by decide +kernel
theorem dX8_call_86 : decode cX8_call 86 = .ok (.aload_n 0, 1) := by decide +kernel
theorem dX8_call_87 : decode cX8_call 87 = .ok (.getfield 15, 3) := by decide +kernel
theorem dX8_call_90 : decode cX8_call 90 = .ok (.goto 14, 3) := by decide +kernel
theorem dX8_call_93 : decode cX8_call 93 = .ok (.aload_n 0, 1) := by decide +kernel
theorem dX8_call_94 : decode cX8_call 94 = .ok (.aload_n 1, 1) := by decide +kernel
theorem dX8_call_95 : decode cX8_call 95 = .ok (.getfield 137, 3) := by decide +kernel
theorem dX8_call_98 : decode cX8_call 98 = .ok (.iload_n 2, 1) := by decide +kernel
theorem dX8_call_99 : decode cX8_call 99 = .ok (.iconst 1, 1) := by decide +kernel
theorem dX8_call_100 : decode cX8_call 100 = .ok (.iadd, 1) := by decide +kernel
theorem dX8_call_101 : decode cX8_call 101 = .ok (.invokevirtual 72, 3) := by decide +kernel
theorem dX8_call_104 : decode cX8_call 104 = .ok (.astore 5, 2) := by decide +kernel
theorem dX8_call_106 : decode cX8_call 106 = .ok (.aload 5, 2) := by decide +kernel
theorem dX8_call_108 : decode cX8_call 108 = .ok (.ifnonnull 5, 3) := by decide +kernel
theorem dX8_call_111 : decode cX8_call 111 = .ok (.aconst_null, 1) := by decide +kernel
theorem dX8_call_112 : decode cX8_call 112 = .ok (.areturn, 1) := by decide +kernel
theorem dX8_call_113 : decode cX8_call 113 = .ok (.aload_n 3, 1) := by decide +kernel
theorem dX8_call_114 : decode cX8_call 114 = .ok (.getfield 125, 3) := by decide +kernel
theorem dX8_call_117 : decode cX8_call 117 = .ok (.ifnonnull 9, 3) := by decide +kernel
theorem dX8_call_120 : decode cX8_call 120 = .ok (.aload_n 0, 1) := by decide +kernel
theorem dX8_call_121 : decode cX8_call 121 = .ok (.iconst 5, 1) := by decide +kernel
theorem dX8_call_122 : decode cX8_call 122 = .ok (.invokevirtual 50, 3) := by decide +kernel
theorem dX8_call_125 : decode cX8_call 125 = .ok (.areturn, 1) := by decide +kernel
theorem dX8_call_126 : decode cX8_call 126 = .ok (.aload_n 0, 1) := by decide +kernel
theorem dX8_call_127 : decode cX8_call 127 = .ok (.getfield 31, 3) := by decide +kernel
theorem dX8_call_130 : decode cX8_call 130 = .ok (.aload_n 3, 1) := by decide +kernel
theorem dX8_call_131 : decode cX8_call 131 = .ok (.getfield 125, 3) := by decide +kernel
theorem dX8_call_134 : decode cX8_call 134 = .ok (.getfield 140, 3) := by decide +kernel
theorem dX8_call_137 : decode cX8_call 137 = .ok (.aload_n 1, 1) := by decide +kernel
theorem dX8_call_138 : decode cX8_call 138 = .ok (.aload 4, 2) := by decide +kernel
theorem dX8_call_140 : decode cX8_call 140 = .ok (.aload 5, 2) := by decide +kernel
theorem dX8_call_142 : decode cX8_call 142 = .ok (.aload_n 0, 1) := by decide +kernel
theorem dX8_call_143 : decode cX8_call 143 = .ok (.getfield 24, 3) := by decide +kernel
theorem dX8_call_146 : decode cX8_call 146 = .ok (.invokevirtual 144, 3) := by decide +kernel
theorem dX8_call_149 : decode cX8_call 149 = .ok (.astore 6, 2) := by decide +kernel
theorem dX8_call_151 : decode cX8_call 151 = .ok (.aload 6, 2) := by decide +kernel
theorem dX8_call_153 : decode cX8_call 153 = .ok (.ifnonnull 15, 3) := by decide +kernel
theorem dX8_call_156 : decode cX8_call 156 = .ok (.aload_n 0, 1) := by decide +kernel
theorem dX8_call_157 : decode cX8_call 157 = .ok (.aload_n 0, 1) := by decide +kernel
theorem dX8_call_158 : decode cX8_call 158 = .ok (.getfield 31, 3) := by decide +kernel
theorem dX8_call_161 : decode cX8_call 161 = .ok (.getfield 148, 3) := by decide +kernel
theorem dX8_call_164 : decode cX8_call 164 = .ok (.invokevirtual 50, 3) := by decide +kernel
theorem dX8_call_167 : decode cX8_call 167 = .ok (.areturn, 1) := by decide +kernel
theorem dX8_call_168 : decode cX8_call 168 = .ok (.aload_n 0, 1) := by decide +kernel
theorem dX8_call_169 : decode cX8_call 169 = .ok (.aload 4, 2) := by decide +kernel
theorem dX8_call_171 : decode cX8_call 171 = .ok (.aload 6, 2) := by decide +kernel
theorem dX8_call_173 : decode cX8_call 173 = .ok (.getfield 149, 3) := by decide +kernel
theorem dX8_call_176 : decode cX8_call 176 = .ok (.invokevirtual 153, 3) := by decide +kernel
theorem dX8_call_179 : decode cX8_call 179 = .ok (.astore 7, 2) := by decide +kernel
theorem dX8_call_181 : decode cX8_call 181 = .ok (.aload 7, 2) := by decide +kernel
theorem dX8_call_183 : decode cX8_call 183 = .ok (.ifnonnull 7, 3) := by decide +kernel
theorem dX8_call_186 : decode cX8_call 186 = .ok (.aconst_null, 1) := by decide +kernel
theorem dX8_call_187 : decode cX8_call 187 = .ok (.goto 14, 3) := by decide +kernel
theorem dX8_call_190 : decode cX8_call 190 = .ok (.aload_n 0, 1) := by decide +kernel
theorem dX8_call_191 : decode cX8_call 191 = .ok (.aload 5, 2) := by decide +kernel
theorem dX8_call_193 : decode cX8_call 193 = .ok (.aload 6, 2) := by decide +kernel
theorem dX8_call_195 : decode cX8_call 195 = .ok (.getfield 157, 3) := by decide +kernel
theorem dX8_call_198 : decode cX8_call 198 = .ok (.invokevirtual 153, 3) := by decide +kernel
theorem dX8_call_201 : decode cX8_call 201 = .ok (.astore 8, 2) := by decide +kernel
theorem dX8_call_203 : decode cX8_call 203 = .ok (.aload 8, 2) := by decide +kernel
theorem dX8_call_205 : decode cX8_call 205 = .ok (.ifnonnull 7, 3) := by decide +kernel
theorem dX8_call_208 : decode cX8_call 208 = .ok (.aconst_null, 1) := by decide +kernel
theorem dX8_call_209 : decode cX8_call 209 = .ok (.goto 14, 3) := by decide +kernel
theorem dX8_call_212 : decode cX8_call 212 = .ok (.aload_n 0, 1) := by decide +kernel
theorem dX8_call_213 : decode cX8_call 213 = .ok (.aload 6, 2) := by decide +kernel
theorem dX8_call_215 : decode cX8_call 215 = .ok (.aload_n 3, 1) := by decide +kernel
theorem dX8_call_216 : decode cX8_call 216 = .ok (.aload 7, 2) := by decide +kernel
theorem dX8_call_218 : decode cX8_call 218 = .ok (.aload 8, 2) := by decide +kernel
theorem dX8_call_220 : decode cX8_call 220 = .ok (.invokevirtual 159, 3) := by decide +kernel
theorem dX8_call_223 : decode cX8_call 223 = .ok (.areturn, 1) := by decide +kernel
theorem dX8_act_0 : decode cX8_act 0 = .ok (.aload_n 1, 1) := by decide +kernel
theorem dX8_act_1 : decode cX8_act 1 = .ok (.getfield 163, 3) := by decide +kernel
theorem dX8_act_4 : decode cX8_act 4 = .ok (.tableswitch 75 0 4 #[36, 44, 46, 49, 73], 36) := by decide +kernel
theorem dX8_act_40 : decode cX8_act 40 = .ok (.aload_n 1, 1) := by decide +kernel
theorem dX8_act_41 : decode cX8_act 41 = .ok (.getfield 166, 3) := by decide +kernel
theorem dX8_act_44 : decode cX8_act 44 = .ok (.invokestatic 122, 3) := by decide +kernel
theorem dX8_act_47 : decode cX8_act 47 = .ok (.areturn, 1) := by decide +kernel
theorem dX8_act_48 : decode cX8_act 48 = .ok (.aload_n 3, 1) := by decide +kernel
theorem dX8_act_49 : decode cX8_act 49 = .ok (.areturn, 1) := by decide +kernel
theorem dX8_act_50 : decode cX8_act 50 = .ok (.aload 4, 2) := by decide +kernel
theorem dX8_act_52 : decode cX8_act 52 = .ok (.areturn, 1) := by decide +kernel
theorem dX8_act_53 : decode cX8_act 53 = .ok (.aload_n 1, 1) := by decide +kernel
theorem dX8_act_54 : decode cX8_act 54 = .ok (.getfield 169, 3) := by decide +kernel
theorem dX8_act_57 : decode cX8_act 57 = .ok (.iconst 2, 1) := by decide +kernel
theorem dX8_act_58 : decode cX8_act 58 = .ok (.if_icmp .ge 11, 3) := by decide +kernel
theorem dX8_act_61 : decode cX8_act 61 = .ok (.aload_n 0, 1) := by decide +kernel
theorem dX8_act_62 : decode cX8_act 62 = .ok (.iconst 1, 1) := by decide +kernel
theorem dX8_act_63 : decode cX8_act 63 = .ok (.invokevirtual 50, 3) := by decide +kernel
theorem dX8_act_66 : decode cX8_act 66 = .ok (.goto 10, 3) := by decide +kernel
theorem dX8_act_69 : decode cX8_act 69 = .ok (.aload_n 0, 1) := by decide +kernel
theorem dX8_act_70 : decode cX8_act 70 = .ok (.aload_n 3, 1) := by decide +kernel
theorem dX8_act_71 : decode cX8_act 71 = .ok (.aload 4, 2) := by decide +kernel
theorem dX8_act_73 : decode cX8_act 73 = .ok (.invokevirtual 172, 3) := by decide +kernel
theorem dX8_act_76 : decode cX8_act 76 = .ok (.areturn, 1) := by decide +kernel
theorem dX8_act_77 : decode cX8_act 77 = .ok (.aload_n 2, 1) := by decide +kernel
theorem dX8_act_78 : decode cX8_act 78 = .ok (.areturn, 1) := by decide +kernel
theorem dX8_act_79 : decode cX8_act 79 = .ok (.aload_n 0, 1) := by decide +kernel
theorem dX8_act_80 : decode cX8_act 80 = .ok (.aload_n 2, 1) := by decide +kernel
theorem dX8_act_81 : decode cX8_act 81 = .ok (.aload_n 1, 1) := by decide +kernel
theorem dX8_act_82 : decode cX8_act 82 = .ok (.getfield 166, 3) := by decide +kernel
theorem dX8_act_85 : decode cX8_act 85 = .ok (.iconst 0, 1) := by decide +kernel
theorem dX8_act_86 : decode cX8_act 86 = .ok (.invokevirtual 80, 3) := by decide +kernel
theorem dX8_act_89 : decode cX8_act 89 = .ok (.areturn, 1) := by decide +kernel
theorem dX8_negative_0 : decode cX8_negative 0 = .ok (.aload_n 1, 1) := by decide +kernel
theorem dX8_negative_1 : decode cX8_negative 1 = .ok (.ifnonnull 5, 3) := by decide +kernel
theorem dX8_negative_4 : decode cX8_negative 4 = .ok (.aconst_null, 1) := by decide +kernel
theorem dX8_negative_5 : decode cX8_negative 5 = .ok (.areturn, 1) := by decide +kernel
theorem dX8_negative_6 : decode cX8_negative 6 = .ok (.aload_n 1, 1) := by decide +kernel
theorem dX8_negative_7 : decode cX8_negative 7 = .ok (.getfield 109, 3) := by decide +kernel
theorem dX8_negative_10 : decode cX8_negative 10 = .ok (.iconst 2, 1) := by decide +kernel
theorem dX8_negative_11 : decode cX8_negative 11 = .ok (.if_icmp .ne 12, 3) := by decide +kernel
theorem dX8_negative_14 : decode cX8_negative 14 = .ok (.aload_n 1, 1) := by decide +kernel
theorem dX8_negative_15 : decode cX8_negative 15 = .ok (.getfield 176, 3) := by decide +kernel
theorem dX8_negative_18 : decode cX8_negative 18 = .ok (.ineg, 1) := by decide +kernel
theorem dX8_negative_19 : decode cX8_negative 19 = .ok (.invokestatic 122, 3) := by decide +kernel
theorem dX8_negative_22 : decode cX8_negative 22 = .ok (.areturn, 1) := by decide +kernel
theorem dX8_negative_23 : decode cX8_negative 23 = .ok (.aload_n 1, 1) := by decide +kernel
theorem dX8_negative_24 : decode cX8_negative 24 = .ok (.getfield 109, 3) := by decide +kernel
theorem dX8_negative_27 : decode cX8_negative 27 = .ok (.iconst 3, 1) := by decide +kernel
theorem dX8_negative_28 : decode cX8_negative 28 = .ok (.if_icmp .ne 14, 3) := by decide +kernel
theorem dX8_negative_31 : decode cX8_negative 31 = .ok (.aload_n 1, 1) := by decide +kernel
theorem dX8_negative_32 : decode cX8_negative 32 = .ok (.getfield 177, 3) := by decide +kernel
theorem dX8_negative_35 : decode cX8_negative 35 = .ok (.dneg, 1) := by decide +kernel
theorem dX8_negative_36 : decode cX8_negative 36 = .ok (.invokestatic 181, 3) := by decide +kernel
theorem dX8_negative_39 : decode cX8_negative 39 = .ok (.goto 8, 3) := by decide +kernel
theorem dX8_negative_42 : decode cX8_negative 42 = .ok (.aload_n 0, 1) := by decide +kernel
theorem dX8_negative_43 : decode cX8_negative 43 = .ok (.iconst 1, 1) := by decide +kernel
theorem dX8_negative_44 : decode cX8_negative 44 = .ok (.invokevirtual 50, 3) := by decide +kernel
theorem dX8_negative_47 : decode cX8_negative 47 = .ok (.areturn, 1) := by decide +kernel
theorem dX8_opposite_0 : decode cX8_opposite 0 = .ok (.aload_n 1, 1) := by decide +kernel
theorem dX8_opposite_1 : decode cX8_opposite 1 = .ok (.ifnonnull 5, 3) := by decide +kernel
theorem dX8_opposite_4 : decode cX8_opposite 4 = .ok (.aconst_null, 1) := by decide +kernel
theorem dX8_opposite_5 : decode cX8_opposite 5 = .ok (.areturn, 1) := by decide +kernel
theorem dX8_opposite_6 : decode cX8_opposite 6 = .ok (.aload_n 1, 1) := by decide +kernel
theorem dX8_opposite_7 : decode cX8_opposite 7 = .ok (.getfield 109, 3) := by decide +kernel
theorem dX8_opposite_10 : decode cX8_opposite 10 = .ok (.iconst 1, 1) := by decide +kernel
theorem dX8_opposite_11 : decode cX8_opposite 11 = .ok (.if_icmp .ne 21, 3) := by decide +kernel
theorem dX8_opposite_14 : decode cX8_opposite 14 = .ok (.aload_n 1, 1) := by decide +kernel
theorem dX8_opposite_15 : decode cX8_opposite 15 = .ok (.invokevirtual 185, 3) := by decide +kernel
theorem dX8_opposite_18 : decode cX8_opposite 18 = .ok (.ifCond .ne 7, 3) := by decide +kernel
theorem dX8_opposite_21 : decode cX8_opposite 21 = .ok (.iconst 1, 1) := by decide +kernel
theorem dX8_opposite_22 : decode cX8_opposite 22 = .ok (.goto 4, 3) := by decide +kernel
theorem dX8_opposite_25 : decode cX8_opposite 25 = .ok (.iconst 0, 1) := by decide +kernel
theorem dX8_opposite_26 : decode cX8_opposite 26 = .ok (.invokestatic 189, 3) := by decide +kernel
theorem dX8_opposite_29 : decode cX8_opposite 29 = .ok (.goto 8, 3) := by decide +kernel
theorem dX8_opposite_32 : decode cX8_opposite 32 = .ok (.aload_n 0, 1) := by decide +kernel
theorem dX8_opposite_33 : decode cX8_opposite 33 = .ok (.iconst 1, 1) := by decide +kernel
theorem dX8_opposite_34 : decode cX8_opposite 34 = .ok (.invokevirtual 50, 3) := by decide +kernel
theorem dX8_opposite_37 : decode cX8_opposite 37 = .ok (.areturn, 1) := by decide +kernel
theorem dX8_logic_0 : decode cX8_logic 0 = .ok (.aload_n 0, 1) := by decide +kernel
theorem dX8_logic_1 : decode cX8_logic 1 = .ok (.aload_n 0, 1) := by decide +kernel
theorem dX8_logic_2 : decode cX8_logic 2 = .ok (.aload_n 1, 1) := by decide +kernel
theorem dX8_logic_3 : decode cX8_logic 3 = .ok (.getfield 68, 3) := by decide +kernel
theorem dX8_logic_6 : decode cX8_logic 6 = .ok (.iload_n 2, 1) := by decide +kernel
theorem dX8_logic_7 : decode cX8_logic 7 = .ok (.iconst 1, 1) := by decide +kernel
theorem dX8_logic_8 : decode cX8_logic 8 = .ok (.iadd, 1) := by decide +kernel
theorem dX8_logic_9 : decode cX8_logic 9 = .ok (.invokevirtual 72, 3) := by decide +kernel
theorem dX8_logic_12 : decode cX8_logic 12 = .ok (.invokevirtual 193, 3) := by decide +kernel
theorem dX8_logic_15 : decode cX8_logic 15 = .ok (.astore_n 3, 1) := by decide +kernel
theorem dX8_logic_16 : decode cX8_logic 16 = .ok (.aload_n 3, 1) := by decide +kernel
theorem dX8_logic_17 : decode cX8_logic 17 = .ok (.ifnull 25, 3) := by decide +kernel
theorem dX8_logic_20 : decode cX8_logic 20 = .ok (.aload_n 3, 1) := by decide +kernel
theorem dX8_logic_21 : decode cX8_logic 21 = .ok (.invokevirtual 185, 3) := by decide +kernel
theorem dX8_logic_24 : decode cX8_logic 24 = .ok (.aload_n 1, 1) := by decide +kernel
theorem dX8_logic_25 : decode cX8_logic 25 = .ok (.getfield 54, 3) := by decide +kernel
theorem dX8_logic_28 : decode cX8_logic 28 = .ok (.sipush 31868, 3) := by decide +kernel
theorem dX8_logic_31 : decode cX8_logic 31 = .ok (.if_icmp .ne 7, 3) := by decide +kernel
theorem dX8_logic_34 : decode cX8_logic 34 = .ok (.iconst 1, 1) := by decide +kernel
theorem dX8_logic_35 : decode cX8_logic 35 = .ok (.goto 4, 3) := by decide +kernel
theorem dX8_logic_38 : decode cX8_logic 38 = .ok (.iconst 0, 1) := by decide +kernel
theorem dX8_logic_39 : decode cX8_logic 39 = .ok (.if_icmp .ne 5, 3) := by decide +kernel
theorem dX8_logic_42 : decode cX8_logic 42 = .ok (.aload_n 3, 1) := by decide +kernel
theorem dX8_logic_43 : decode cX8_logic 43 = .ok (.areturn, 1) := by decide +kernel
theorem dX8_logic_44 : decode cX8_logic 44 = .ok (.aload_n 0, 1) := by decide +kernel
theorem dX8_logic_45 : decode cX8_logic 45 = .ok (.aload_n 0, 1) := by decide +kernel
theorem dX8_logic_46 : decode cX8_logic 46 = .ok (.aload_n 1, 1) := by decide +kernel
theorem dX8_logic_47 : decode cX8_logic 47 = .ok (.getfield 134, 3) := by decide +kernel
theorem dX8_logic_50 : decode cX8_logic 50 = .ok (.iload_n 2, 1) := by decide +kernel
theorem dX8_logic_51 : decode cX8_logic 51 = .ok (.iconst 1, 1) := by decide +kernel
theorem dX8_logic_52 : decode cX8_logic 52 = .ok (.iadd, 1) := by decide +kernel
theorem dX8_logic_53 : decode cX8_logic 53 = .ok (.invokevirtual 72, 3) := by decide +kernel
theorem dX8_logic_56 : decode cX8_logic 56 = .ok (.invokevirtual 193, 3) := by decide +kernel
theorem dX8_logic_59 : decode cX8_logic 59 = .ok (.areturn, 1) := by decide +kernel
theorem dX8_chosen_0 : decode cX8_chosen 0 = .ok (.aload_n 0, 1) := by decide +kernel
theorem dX8_chosen_1 : decode cX8_chosen 1 = .ok (.aload_n 0, 1) := by decide +kernel
theorem dX8_chosen_2 : decode cX8_chosen 2 = .ok (.aload_n 1, 1) := by decide +kernel
theorem dX8_chosen_3 : decode cX8_chosen 3 = .ok (.getfield 68, 3) := by decide +kernel
theorem dX8_chosen_6 : decode cX8_chosen 6 = .ok (.iload_n 2, 1) := by decide +kernel
theorem dX8_chosen_7 : decode cX8_chosen 7 = .ok (.iconst 1, 1) := by decide +kernel
theorem dX8_chosen_8 : decode cX8_chosen 8 = .ok (.iadd, 1) := by decide +kernel
theorem dX8_chosen_9 : decode cX8_chosen 9 = .ok (.invokevirtual 72, 3) := by decide +kernel
theorem dX8_chosen_12 : decode cX8_chosen 12 = .ok (.invokevirtual 193, 3) := by decide +kernel
theorem dX8_chosen_15 : decode cX8_chosen 15 = .ok (.astore_n 3, 1) := by decide +kernel
theorem dX8_chosen_16 : decode cX8_chosen 16 = .ok (.aload_n 3, 1) := by decide +kernel
theorem dX8_chosen_17 : decode cX8_chosen 17 = .ok (.ifnonnull 5, 3) := by decide +kernel
theorem dX8_chosen_20 : decode cX8_chosen 20 = .ok (.aconst_null, 1) := by decide +kernel
theorem dX8_chosen_21 : decode cX8_chosen 21 = .ok (.areturn, 1) := by decide +kernel
theorem dX8_chosen_22 : decode cX8_chosen 22 = .ok (.aload_n 0, 1) := by decide +kernel
theorem dX8_chosen_23 : decode cX8_chosen 23 = .ok (.aload_n 3, 1) := by decide +kernel
theorem dX8_chosen_24 : decode cX8_chosen 24 = .ok (.invokevirtual 185, 3) := by decide +kernel
theorem dX8_chosen_27 : decode cX8_chosen 27 = .ok (.ifCond .eq 10, 3) := by decide +kernel
theorem dX8_chosen_30 : decode cX8_chosen 30 = .ok (.aload_n 1, 1) := by decide +kernel
theorem dX8_chosen_31 : decode cX8_chosen 31 = .ok (.getfield 134, 3) := by decide +kernel
theorem dX8_chosen_34 : decode cX8_chosen 34 = .ok (.goto 7, 3) := by decide +kernel
theorem dX8_chosen_37 : decode cX8_chosen 37 = .ok (.aload_n 1, 1) := by decide +kernel
theorem dX8_chosen_38 : decode cX8_chosen 38 = .ok (.getfield 137, 3) := by decide +kernel
theorem dX8_chosen_41 : decode cX8_chosen 41 = .ok (.iload_n 2, 1) := by decide +kernel
theorem dX8_chosen_42 : decode cX8_chosen 42 = .ok (.iconst 1, 1) := by decide +kernel
theorem dX8_chosen_43 : decode cX8_chosen 43 = .ok (.iadd, 1) := by decide +kernel
theorem dX8_chosen_44 : decode cX8_chosen 44 = .ok (.invokevirtual 72, 3) := by decide +kernel
theorem dX8_chosen_47 : decode cX8_chosen 47 = .ok (.areturn, 1) := by decide +kernel
theorem dX8_bool_0 : decode cX8_bool 0 = .ok (.aload_n 1, 1) := by decide +kernel
theorem dX8_bool_1 : decode cX8_bool 1 = .ok (.ifnull 11, 3) := by decide +kernel
theorem dX8_bool_4 : decode cX8_bool 4 = .ok (.aload_n 1, 1) := by decide +kernel
theorem dX8_bool_5 : decode cX8_bool 5 = .ok (.getfield 109, 3) := by decide +kernel
theorem dX8_bool_8 : decode cX8_bool 8 = .ok (.iconst 1, 1) := by decide +kernel
theorem dX8_bool_9 : decode cX8_bool 9 = .ok (.if_icmp .ne 7, 3) := by decide +kernel
theorem dX8_bool_12 : decode cX8_bool 12 = .ok (.aload_n 1, 1) := by decide +kernel
theorem dX8_bool_13 : decode cX8_bool 13 = .ok (.goto 8, 3) := by decide +kernel
theorem dX8_bool_16 : decode cX8_bool 16 = .ok (.aload_n 0, 1) := by decide +kernel
theorem dX8_bool_17 : decode cX8_bool 17 = .ok (.iconst 1, 1) := by decide +kernel
theorem dX8_bool_18 : decode cX8_bool 18 = .ok (.invokevirtual 50, 3) := by decide +kernel
theorem dX8_bool_21 : decode cX8_bool 21 = .ok (.areturn, 1) := by decide +kernel
theorem dX8_orElse_0 : decode cX8_orElse 0 = .ok (.aload_n 0, 1) := by decide +kernel
theorem dX8_orElse_1 : decode cX8_orElse 1 = .ok (.aload_n 1, 1) := by decide +kernel
theorem dX8_orElse_2 : decode cX8_orElse 2 = .ok (.getfield 68, 3) := by decide +kernel
theorem dX8_orElse_5 : decode cX8_orElse 5 = .ok (.iload_n 2, 1) := by decide +kernel
theorem dX8_orElse_6 : decode cX8_orElse 6 = .ok (.iconst 1, 1) := by decide +kernel
theorem dX8_orElse_7 : decode cX8_orElse 7 = .ok (.iadd, 1) := by decide +kernel
theorem dX8_orElse_8 : decode cX8_orElse 8 = .ok (.invokevirtual 72, 3) := by decide +kernel
theorem dX8_orElse_11 : decode cX8_orElse 11 = .ok (.astore_n 3, 1) := by decide +kernel
theorem dX8_orElse_12 : decode cX8_orElse 12 = .ok (.aload_n 3, 1) := by decide +kernel
theorem dX8_orElse_13 : decode cX8_orElse 13 = .ok (.ifnonnull 5, 3) := by decide +kernel
theorem dX8_orElse_16 : decode cX8_orElse 16 = .ok (.aconst_null, 1) := by decide +kernel
theorem dX8_orElse_17 : decode cX8_orElse 17 = .ok (.areturn, 1) := by decide +kernel
theorem dX8_orElse_18 : decode cX8_orElse 18 = .ok (.aload_n 3, 1) := by decide +kernel
theorem dX8_orElse_19 : decode cX8_orElse 19 = .ok (.getfield 109, 3) := by decide +kernel
theorem dX8_orElse_22 : decode cX8_orElse 22 = .ok (.ifCond .eq 21, 3) := by decide +kernel
theorem dX8_orElse_25 : decode cX8_orElse 25 = .ok (.aload_n 3, 1) := by decide +kernel
theorem dX8_orElse_26 : decode cX8_orElse 26 = .ok (.getfield 109, 3) := by decide +kernel
theorem dX8_orElse_29 : decode cX8_orElse 29 = .ok (.iconst 4, 1) := by decide +kernel
theorem dX8_orElse_30 : decode cX8_orElse 30 = .ok (.if_icmp .ne 17, 3) := by decide +kernel
theorem dX8_orElse_33 : decode cX8_orElse 33 = .ok (.aload_n 3, 1) := by decide +kernel
theorem dX8_orElse_34 : decode cX8_orElse 34 = .ok (.getfield 112, 3) := by decide +kernel
theorem dX8_orElse_37 : decode cX8_orElse 37 = .ok (.invokevirtual 196, 3) := by decide +kernel
theorem dX8_orElse_40 : decode cX8_orElse 40 = .ok (.ifCond .eq 7, 3) := by decide +kernel
theorem dX8_orElse_43 : decode cX8_orElse 43 = .ok (.iconst 1, 1) := by decide +kernel
theorem dX8_orElse_44 : decode cX8_orElse 44 = .ok (.goto 4, 3) := by decide +kernel
theorem dX8_orElse_47 : decode cX8_orElse 47 = .ok (.iconst 0, 1) := by decide +kernel
theorem dX8_orElse_48 : decode cX8_orElse 48 = .ok (.istore 4, 2) := by decide +kernel
theorem dX8_orElse_50 : decode cX8_orElse 50 = .ok (.iload 4, 2) := by decide +kernel
theorem dX8_orElse_52 : decode cX8_orElse 52 = .ok (.ifCond .eq 17, 3) := by decide +kernel
theorem dX8_orElse_55 : decode cX8_orElse 55 = .ok (.aload_n 0, 1) := by decide +kernel
theorem dX8_orElse_56 : decode cX8_orElse 56 = .ok (.aload_n 1, 1) := by decide +kernel
theorem dX8_orElse_57 : decode cX8_orElse 57 = .ok (.getfield 134, 3) := by decide +kernel
theorem dX8_orElse_60 : decode cX8_orElse 60 = .ok (.iload_n 2, 1) := by decide +kernel
theorem dX8_orElse_61 : decode cX8_orElse 61 = .ok (.iconst 1, 1) := by decide +kernel
theorem dX8_orElse_62 : decode cX8_orElse 62 = .ok (.iadd, 1) := by decide +kernel
theorem dX8_orElse_63 : decode cX8_orElse 63 = .ok (.invokevirtual 72, 3) := by decide +kernel
theorem dX8_orElse_66 : decode cX8_orElse 66 = .ok (.goto 4, 3) := by decide +kernel
theorem dX8_orElse_69 : decode cX8_orElse 69 = .ok (.aload_n 3, 1) := by decide +kernel
theorem dX8_orElse_70 : decode cX8_orElse 70 = .ok (.areturn, 1) := by decide +kernel
theorem dX8_set_0 : decode cX8_set 0 = .ok (.aload_n 1, 1) := by decide +kernel
theorem dX8_set_1 : decode cX8_set 1 = .ok (.getfield 68, 3) := by decide +kernel
theorem dX8_set_4 : decode cX8_set 4 = .ok (.astore_n 3, 1) := by decide +kernel
theorem dX8_set_5 : decode cX8_set 5 = .ok (.aload_n 3, 1) := by decide +kernel
theorem dX8_set_6 : decode cX8_set 6 = .ok (.ifnonnull 9, 3) := by decide +kernel
theorem dX8_set_9 : decode cX8_set 9 = .ok (.aload_n 0, 1) := by decide +kernel
theorem dX8_set_10 : decode cX8_set 10 = .ok (.iconst 1, 1) := by decide +kernel
theorem dX8_set_11 : decode cX8_set 11 = .ok (.invokevirtual 50, 3) := by decide +kernel
theorem dX8_set_14 : decode cX8_set 14 = .ok (.areturn, 1) := by decide +kernel
theorem dX8_set_15 : decode cX8_set 15 = .ok (.aload_n 3, 1) := by decide +kernel
theorem dX8_set_16 : decode cX8_set 16 = .ok (.getfield 54, 3) := by decide +kernel
theorem dX8_set_19 : decode cX8_set 19 = .ok (.iconst 4, 1) := by decide +kernel
theorem dX8_set_20 : decode cX8_set 20 = .ok (.if_icmp .ne 14, 3) := by decide +kernel
theorem dX8_set_23 : decode cX8_set 23 = .ok (.aload_n 0, 1) := by decide +kernel
theorem dX8_set_24 : decode cX8_set 24 = .ok (.aload_n 3, 1) := by decide +kernel
theorem dX8_set_25 : decode cX8_set 25 = .ok (.aload_n 1, 1) := by decide +kernel
theorem dX8_set_26 : decode cX8_set 26 = .ok (.getfield 134, 3) := by decide +kernel
theorem dX8_set_29 : decode cX8_set 29 = .ok (.iload_n 2, 1) := by decide +kernel
theorem dX8_set_30 : decode cX8_set 30 = .ok (.invokevirtual 199, 3) := by decide +kernel
theorem dX8_set_33 : decode cX8_set 33 = .ok (.areturn, 1) := by decide +kernel
theorem dX8_set_34 : decode cX8_set 34 = .ok (.aload_n 0, 1) := by decide +kernel
theorem dX8_set_35 : decode cX8_set 35 = .ok (.aload_n 1, 1) := by decide +kernel
theorem dX8_set_36 : decode cX8_set 36 = .ok (.getfield 134, 3) := by decide +kernel
theorem dX8_set_39 : decode cX8_set 39 = .ok (.iload_n 2, 1) := by decide +kernel
theorem dX8_set_40 : decode cX8_set 40 = .ok (.iconst 1, 1) := by decide +kernel
theorem dX8_set_41 : decode cX8_set 41 = .ok (.iadd, 1) := by decide +kernel
theorem dX8_set_42 : decode cX8_set 42 = .ok (.invokevirtual 72, 3) := by decide +kernel
theorem dX8_set_45 : decode cX8_set 45 = .ok (.astore 4, 2) := by decide +kernel
theorem dX8_set_47 : decode cX8_set 47 = .ok (.aload 4, 2) := by decide +kernel
theorem dX8_set_49 : decode cX8_set 49 = .ok (.ifnonnull 5, 3) := by decide +kernel
theorem dX8_set_52 : decode cX8_set 52 = .ok (.aconst_null, 1) := by decide +kernel
theorem dX8_set_53 : decode cX8_set 53 = .ok (.areturn, 1) := by decide +kernel
theorem dX8_set_54 : decode cX8_set 54 = .ok (.aload_n 0, 1) := by decide +kernel
theorem dX8_set_55 : decode cX8_set 55 = .ok (.aload_n 3, 1) := by decide +kernel
theorem dX8_set_56 : decode cX8_set 56 = .ok (.getfield 62, 3) := by decide +kernel
theorem dX8_set_59 : decode cX8_set 59 = .ok (.aload 4, 2) := by decide +kernel
theorem dX8_set_61 : decode cX8_set 61 = .ok (.invokevirtual 203, 3) := by decide +kernel
theorem dX8_set_64 : decode cX8_set 64 = .ok (.ifCond .eq 8, 3) := by decide +kernel
theorem dX8_set_67 : decode cX8_set 67 = .ok (.aload 4, 2) := by decide +kernel
theorem dX8_set_69 : decode cX8_set 69 = .ok (.goto 9, 3) := by decide +kernel
theorem dX8_set_72 : decode cX8_set 72 = .ok (.aload_n 0, 1) := by decide +kernel
theorem dX8_set_73 : decode cX8_set 73 = .ok (.bipush 11, 2) := by decide +kernel
theorem dX8_set_75 : decode cX8_set 75 = .ok (.invokevirtual 50, 3) := by decide +kernel
theorem dX8_set_78 : decode cX8_set 78 = .ok (.areturn, 1) := by decide +kernel
theorem dX8_setProperty_0 : decode cX8_setProperty 0 = .ok (.aload_n 0, 1) := by decide +kernel
theorem dX8_setProperty_1 : decode cX8_setProperty 1 = .ok (.aload_n 1, 1) := by decide +kernel
theorem dX8_setProperty_2 : decode cX8_setProperty 2 = .ok (.getfield 68, 3) := by decide +kernel
theorem dX8_setProperty_5 : decode cX8_setProperty 5 = .ok (.iload_n 3, 1) := by decide +kernel
theorem dX8_setProperty_6 : decode cX8_setProperty 6 = .ok (.iconst 1, 1) := by decide +kernel
theorem dX8_setProperty_7 : decode cX8_setProperty 7 = .ok (.iadd, 1) := by decide +kernel
theorem dX8_setProperty_8 : decode cX8_setProperty 8 = .ok (.invokevirtual 72, 3) := by decide +kernel
theorem dX8_setProperty_11 : decode cX8_setProperty 11 = .ok (.astore 4, 2) := by decide +kernel
theorem dX8_setProperty_13 : decode cX8_setProperty 13 = .ok (.aload 4, 2) := by decide +kernel
theorem dX8_setProperty_15 : decode cX8_setProperty 15 = .ok (.ifnull 11, 3) := by decide +kernel
theorem dX8_setProperty_18 : decode cX8_setProperty 18 = .ok (.aload 4, 2) := by decide +kernel
theorem dX8_setProperty_20 : decode cX8_setProperty 20 = .ok (.getfield 109, 3) := by decide +kernel
theorem dX8_setProperty_23 : decode cX8_setProperty 23 = .ok (.ifCond .ne 9, 3) := by decide +kernel
theorem dX8_setProperty_26 : decode cX8_setProperty 26 = .ok (.aload_n 0, 1) := by decide +kernel
theorem dX8_setProperty_27 : decode cX8_setProperty 27 = .ok (.iconst 4, 1) := by decide +kernel
theorem dX8_setProperty_28 : decode cX8_setProperty 28 = .ok (.invokevirtual 50, 3) := by decide +kernel
theorem dX8_setProperty_31 : decode cX8_setProperty 31 = .ok (.areturn, 1) := by decide +kernel
theorem dX8_setProperty_32 : decode cX8_setProperty 32 = .ok (.aload 4, 2) := by decide +kernel
theorem dX8_setProperty_34 : decode cX8_setProperty 34 = .ok (.getfield 125, 3) := by decide +kernel
theorem dX8_setProperty_37 : decode cX8_setProperty 37 = .ok (.ifnull 18, 3) := by decide +kernel
theorem dX8_setProperty_40 : decode cX8_setProperty 40 = .ok (.aload 4, 2) := by decide +kernel
theorem dX8_setProperty_42 : decode cX8_setProperty 42 = .ok (.getfield 125, 3) := by decide +kernel
theorem dX8_setProperty_45 : decode cX8_setProperty 45 = .ok (.aload_n 1, 1) := by decide +kernel
theorem dX8_setProperty_46 : decode cX8_setProperty 46 = .ok (.getfield 62, 3) := by decide +kernel
theorem dX8_setProperty_49 : decode cX8_setProperty 49 = .ok (.invokevirtual 129, 3) := by decide +kernel
theorem dX8_setProperty_52 : decode cX8_setProperty 52 = .ok (.ifnonnull 9, 3) := by decide +kernel
theorem dX8_setProperty_55 : decode cX8_setProperty 55 = .ok (.aload_n 0, 1) := by decide +kernel
theorem dX8_setProperty_56 : decode cX8_setProperty 56 = .ok (.iconst 5, 1) := by decide +kernel
theorem dX8_setProperty_57 : decode cX8_setProperty 57 = .ok (.invokevirtual 50, 3) := by decide +kernel
theorem dX8_setProperty_60 : decode cX8_setProperty 60 = .ok (.areturn, 1) := by decide +kernel
theorem dX8_setProperty_61 : decode cX8_setProperty 61 = .ok (.aload_n 0, 1) := by decide +kernel
theorem dX8_setProperty_62 : decode cX8_setProperty 62 = .ok (.aload_n 2, 1) := by decide +kernel
theorem dX8_setProperty_63 : decode cX8_setProperty 63 = .ok (.iload_n 3, 1) := by decide +kernel
theorem dX8_setProperty_64 : decode cX8_setProperty 64 = .ok (.iconst 1, 1) := by decide +kernel
theorem dX8_setProperty_65 : decode cX8_setProperty 65 = .ok (.iadd, 1) := by decide +kernel
theorem dX8_setProperty_66 : decode cX8_setProperty 66 = .ok (.invokevirtual 72, 3) := by decide +kernel
theorem dX8_setProperty_69 : decode cX8_setProperty 69 = .ok (.astore 5, 2) := by decide +kernel
theorem dX8_setProperty_71 : decode cX8_setProperty 71 = .ok (.aload 5, 2) := by decide +kernel
theorem dX8_setProperty_73 : decode cX8_setProperty 73 = .ok (.ifnonnull 7, 3) := by decide +kernel
theorem dX8_setProperty_76 : decode cX8_setProperty 76 = .ok (.aconst_null, 1) := by decide +kernel
theorem dX8_setProperty_77 : decode cX8_setProperty 77 = .ok (.goto 15, 3) := by decide +kernel
theorem dX8_setProperty_80 : decode cX8_setProperty 80 = .ok (.aload_n 0, 1) := by decide +kernel
theorem dX8_setProperty_81 : decode cX8_setProperty 81 = .ok (.aload 4, 2) := by decide +kernel
theorem dX8_setProperty_83 : decode cX8_setProperty 83 = .ok (.aload_n 1, 1) := by decide +kernel
theorem dX8_setProperty_84 : decode cX8_setProperty 84 = .ok (.getfield 62, 3) := by decide +kernel
theorem dX8_setProperty_87 : decode cX8_setProperty 87 = .ok (.aload 5, 2) := by decide +kernel
theorem dX8_setProperty_89 : decode cX8_setProperty 89 = .ok (.invokevirtual 207, 3) := by decide +kernel
theorem dX8_setProperty_92 : decode cX8_setProperty 92 = .ok (.areturn, 1) := by decide +kernel
theorem dX8_setField_0 : decode cX8_setField 0 = .ok (.aload_n 1, 1) := by decide +kernel
theorem dX8_setField_1 : decode cX8_setField 1 = .ok (.getfield 125, 3) := by decide +kernel
theorem dX8_setField_4 : decode cX8_setField 4 = .ok (.ifnonnull 7, 3) := by decide +kernel
theorem dX8_setField_7 : decode cX8_setField 7 = .ok (.aconst_null, 1) := by decide +kernel
theorem dX8_setField_8 : decode cX8_setField 8 = .ok (.goto 14, 3) := by decide +kernel
theorem dX8_setField_11 : decode cX8_setField 11 = .ok (.aload_n 1, 1) := by decide +kernel
theorem dX8_setField_12 : decode cX8_setField 12 = .ok (.getfield 125, 3) := by decide +kernel
theorem dX8_setField_15 : decode cX8_setField 15 = .ok (.getfield 140, 3) := by decide +kernel
theorem dX8_setField_18 : decode cX8_setField 18 = .ok (.iload_n 2, 1) := by decide +kernel
theorem dX8_setField_19 : decode cX8_setField 19 = .ok (.invokevirtual 211, 3) := by decide +kernel
theorem dX8_setField_22 : decode cX8_setField 22 = .ok (.astore 4, 2) := by decide +kernel
theorem dX8_setField_24 : decode cX8_setField 24 = .ok (.aload 4, 2) := by decide +kernel
theorem dX8_setField_26 : decode cX8_setField 26 = .ok (.ifnull 10, 3) := by decide +kernel
theorem dX8_setField_29 : decode cX8_setField 29 = .ok (.aload_n 1, 1) := by decide +kernel
theorem dX8_setField_30 : decode cX8_setField 30 = .ok (.getfield 125, 3) := by decide +kernel
theorem dX8_setField_33 : decode cX8_setField 33 = .ok (.ifnonnull 9, 3) := by decide +kernel
theorem dX8_setField_36 : decode cX8_setField 36 = .ok (.aload_n 0, 1) := by decide +kernel
theorem dX8_setField_37 : decode cX8_setField 37 = .ok (.iconst 5, 1) := by decide +kernel
theorem dX8_setField_38 : decode cX8_setField 38 = .ok (.invokevirtual 50, 3) := by decide +kernel
theorem dX8_setField_41 : decode cX8_setField 41 = .ok (.areturn, 1) := by decide +kernel
theorem dX8_setField_42 : decode cX8_setField 42 = .ok (.aload_n 0, 1) := by decide +kernel
theorem dX8_setField_43 : decode cX8_setField 43 = .ok (.aload_n 3, 1) := by decide +kernel
theorem dX8_setField_44 : decode cX8_setField 44 = .ok (.aload 4, 2) := by decide +kernel
theorem dX8_setField_46 : decode cX8_setField 46 = .ok (.getfield 217, 3) := by decide +kernel
theorem dX8_setField_49 : decode cX8_setField 49 = .ok (.invokevirtual 153, 3) := by decide +kernel
theorem dX8_setField_52 : decode cX8_setField 52 = .ok (.astore 5, 2) := by decide +kernel
theorem dX8_setField_54 : decode cX8_setField 54 = .ok (.aload 5, 2) := by decide +kernel
theorem dX8_setField_56 : decode cX8_setField 56 = .ok (.ifnull 14, 3) := by decide +kernel
theorem dX8_setField_59 : decode cX8_setField 59 = .ok (.aload_n 1, 1) := by decide +kernel
theorem dX8_setField_60 : decode cX8_setField 60 = .ok (.getfield 125, 3) := by decide +kernel
theorem dX8_setField_63 : decode cX8_setField 63 = .ok (.aload 4, 2) := by decide +kernel
theorem dX8_setField_65 : decode cX8_setField 65 = .ok (.aload 5, 2) := by decide +kernel
theorem dX8_setField_67 : decode cX8_setField 67 = .ok (.invokevirtual 222, 3) := by decide +kernel
theorem dX8_setField_70 : decode cX8_setField 70 = .ok (.aload 5, 2) := by decide +kernel
theorem dX8_setField_72 : decode cX8_setField 72 = .ok (.areturn, 1) := by decide +kernel
theorem dX8_fit_0 : decode cX8_fit 0 = .ok (.aload_n 1, 1) := by decide +kernel
theorem dX8_fit_1 : decode cX8_fit 1 = .ok (.iload_n 2, 1) := by decide +kernel
theorem dX8_fit_2 : decode cX8_fit 2 = .ok (.invokevirtual 226, 3) := by decide +kernel
theorem dX8_fit_5 : decode cX8_fit 5 = .ok (.ifCond .eq 5, 3) := by decide +kernel
theorem dX8_fit_8 : decode cX8_fit 8 = .ok (.aload_n 1, 1) := by decide +kernel
theorem dX8_fit_9 : decode cX8_fit 9 = .ok (.areturn, 1) := by decide +kernel
theorem dX8_fit_10 : decode cX8_fit 10 = .ok (.aload_n 0, 1) := by decide +kernel
theorem dX8_fit_11 : decode cX8_fit 11 = .ok (.getfield 24, 3) := by decide +kernel
theorem dX8_fit_14 : decode cX8_fit 14 = .ok (.aload_n 1, 1) := by decide +kernel
theorem dX8_fit_15 : decode cX8_fit 15 = .ok (.iload_n 2, 1) := by decide +kernel
theorem dX8_fit_16 : decode cX8_fit 16 = .ok (.invokevirtual 230, 3) := by decide +kernel
theorem dX8_fit_19 : decode cX8_fit 19 = .ok (.ifCond .ne 10, 3) := by decide +kernel
theorem dX8_fit_22 : decode cX8_fit 22 = .ok (.aload_n 0, 1) := by decide +kernel
theorem dX8_fit_23 : decode cX8_fit 23 = .ok (.bipush 6, 2) := by decide +kernel
theorem dX8_fit_25 : decode cX8_fit 25 = .ok (.invokevirtual 50, 3) := by decide +kernel
theorem dX8_fit_28 : decode cX8_fit 28 = .ok (.areturn, 1) := by decide +kernel
theorem dX8_fit_29 : decode cX8_fit 29 = .ok (.aload_n 0, 1) := by decide +kernel
theorem dX8_fit_30 : decode cX8_fit 30 = .ok (.getfield 24, 3) := by decide +kernel
theorem dX8_fit_33 : decode cX8_fit 33 = .ok (.aload_n 1, 1) := by decide +kernel
theorem dX8_fit_34 : decode cX8_fit 34 = .ok (.iload_n 2, 1) := by decide +kernel
theorem dX8_fit_35 : decode cX8_fit 35 = .ok (.invokevirtual 234, 3) := by decide +kernel
theorem dX8_fit_38 : decode cX8_fit 38 = .ok (.astore_n 3, 1) := by decide +kernel
theorem dX8_fit_39 : decode cX8_fit 39 = .ok (.aload_n 3, 1) := by decide +kernel
theorem dX8_fit_40 : decode cX8_fit 40 = .ok (.ifnonnull 12, 3) := by decide +kernel
theorem dX8_fit_43 : decode cX8_fit 43 = .ok (.aload_n 0, 1) := by decide +kernel
theorem dX8_fit_44 : decode cX8_fit 44 = .ok (.bipush 10, 2) := by decide +kernel
theorem dX8_fit_46 : decode cX8_fit 46 = .ok (.invokevirtual 50, 3) := by decide +kernel
theorem dX8_fit_49 : decode cX8_fit 49 = .ok (.goto 4, 3) := by decide +kernel
theorem dX8_fit_52 : decode cX8_fit 52 = .ok (.aload_n 3, 1) := by decide +kernel
theorem dX8_fit_53 : decode cX8_fit 53 = .ok (.areturn, 1) := by decide +kernel
theorem dX8_combined_0 : decode cX8_combined 0 = .ok (.aload_n 0, 1) := by decide +kernel
theorem dX8_combined_1 : decode cX8_combined 1 = .ok (.aload_n 1, 1) := by decide +kernel
theorem dX8_combined_2 : decode cX8_combined 2 = .ok (.getfield 68, 3) := by decide +kernel
theorem dX8_combined_5 : decode cX8_combined 5 = .ok (.iload_n 2, 1) := by decide +kernel
theorem dX8_combined_6 : decode cX8_combined 6 = .ok (.iconst 1, 1) := by decide +kernel
theorem dX8_combined_7 : decode cX8_combined 7 = .ok (.iadd, 1) := by decide +kernel
theorem dX8_combined_8 : decode cX8_combined 8 = .ok (.invokevirtual 72, 3) := by decide +kernel
theorem dX8_combined_11 : decode cX8_combined 11 = .ok (.astore_n 3, 1) := by decide +kernel
theorem dX8_combined_12 : decode cX8_combined 12 = .ok (.aload_n 3, 1) := by decide +kernel
theorem dX8_combined_13 : decode cX8_combined 13 = .ok (.ifnonnull 5, 3) := by decide +kernel
theorem dX8_combined_16 : decode cX8_combined 16 = .ok (.aconst_null, 1) := by decide +kernel
theorem dX8_combined_17 : decode cX8_combined 17 = .ok (.areturn, 1) := by decide +kernel
theorem dX8_combined_18 : decode cX8_combined 18 = .ok (.aload_n 0, 1) := by decide +kernel
theorem dX8_combined_19 : decode cX8_combined 19 = .ok (.aload_n 1, 1) := by decide +kernel
theorem dX8_combined_20 : decode cX8_combined 20 = .ok (.getfield 134, 3) := by decide +kernel
theorem dX8_combined_23 : decode cX8_combined 23 = .ok (.iload_n 2, 1) := by decide +kernel
theorem dX8_combined_24 : decode cX8_combined 24 = .ok (.iconst 1, 1) := by decide +kernel
theorem dX8_combined_25 : decode cX8_combined 25 = .ok (.iadd, 1) := by decide +kernel
theorem dX8_combined_26 : decode cX8_combined 26 = .ok (.invokevirtual 72, 3) := by decide +kernel
theorem dX8_combined_29 : decode cX8_combined 29 = .ok (.astore 4, 2) := by decide +kernel
theorem dX8_combined_31 : decode cX8_combined 31 = .ok (.aload 4, 2) := by decide +kernel
theorem dX8_combined_33 : decode cX8_combined 33 = .ok (.ifnonnull 5, 3) := by decide +kernel
theorem dX8_combined_36 : decode cX8_combined 36 = .ok (.aconst_null, 1) := by decide +kernel
theorem dX8_combined_37 : decode cX8_combined 37 = .ok (.areturn, 1) := by decide +kernel
theorem dX8_combined_38 : decode cX8_combined 38 = .ok (.aload_n 1, 1) := by decide +kernel
theorem dX8_combined_39 : decode cX8_combined 39 = .ok (.getfield 54, 3) := by decide +kernel
theorem dX8_combined_42 : decode cX8_combined 42 = .ok (.lookupswitch 114 #[(37, 102), (42, 102), (43, 94), (45, 102), (47, 102), (8509, 76), (15677, 66)], 66) := by decide +kernel
theorem dX8_combined_108 : decode cX8_combined 108 = .ok (.aload_n 3, 1) := by decide +kernel
theorem dX8_combined_109 : decode cX8_combined 109 = .ok (.aload 4, 2) := by decide +kernel
theorem dX8_combined_111 : decode cX8_combined 111 = .ok (.invokestatic 237, 3) := by decide +kernel
theorem dX8_combined_114 : decode cX8_combined 114 = .ok (.invokestatic 189, 3) := by decide +kernel
theorem dX8_combined_117 : decode cX8_combined 117 = .ok (.areturn, 1) := by decide +kernel
theorem dX8_combined_118 : decode cX8_combined 118 = .ok (.aload_n 3, 1) := by decide +kernel
theorem dX8_combined_119 : decode cX8_combined 119 = .ok (.aload 4, 2) := by decide +kernel
theorem dX8_combined_121 : decode cX8_combined 121 = .ok (.invokestatic 237, 3) := by decide +kernel
theorem dX8_combined_124 : decode cX8_combined 124 = .ok (.ifCond .ne 7, 3) := by decide +kernel
theorem dX8_combined_127 : decode cX8_combined 127 = .ok (.iconst 1, 1) := by decide +kernel
theorem dX8_combined_128 : decode cX8_combined 128 = .ok (.goto 4, 3) := by decide +kernel
theorem dX8_combined_131 : decode cX8_combined 131 = .ok (.iconst 0, 1) := by decide +kernel
theorem dX8_combined_132 : decode cX8_combined 132 = .ok (.invokestatic 189, 3) := by decide +kernel
theorem dX8_combined_135 : decode cX8_combined 135 = .ok (.areturn, 1) := by decide +kernel
theorem dX8_combined_136 : decode cX8_combined 136 = .ok (.aload_n 0, 1) := by decide +kernel
theorem dX8_combined_137 : decode cX8_combined 137 = .ok (.aload_n 3, 1) := by decide +kernel
theorem dX8_combined_138 : decode cX8_combined 138 = .ok (.aload 4, 2) := by decide +kernel
theorem dX8_combined_140 : decode cX8_combined 140 = .ok (.invokevirtual 172, 3) := by decide +kernel
theorem dX8_combined_143 : decode cX8_combined 143 = .ok (.areturn, 1) := by decide +kernel
theorem dX8_combined_144 : decode cX8_combined 144 = .ok (.aload_n 0, 1) := by decide +kernel
theorem dX8_combined_145 : decode cX8_combined 145 = .ok (.aload_n 1, 1) := by decide +kernel
theorem dX8_combined_146 : decode cX8_combined 146 = .ok (.getfield 54, 3) := by decide +kernel
theorem dX8_combined_149 : decode cX8_combined 149 = .ok (.aload_n 3, 1) := by decide +kernel
theorem dX8_combined_150 : decode cX8_combined 150 = .ok (.aload 4, 2) := by decide +kernel
theorem dX8_combined_152 : decode cX8_combined 152 = .ok (.invokevirtual 241, 3) := by decide +kernel
theorem dX8_combined_155 : decode cX8_combined 155 = .ok (.areturn, 1) := by decide +kernel
theorem dX8_combined_156 : decode cX8_combined 156 = .ok (.aload_n 0, 1) := by decide +kernel
theorem dX8_combined_157 : decode cX8_combined 157 = .ok (.aload_n 1, 1) := by decide +kernel
theorem dX8_combined_158 : decode cX8_combined 158 = .ok (.getfield 54, 3) := by decide +kernel
theorem dX8_combined_161 : decode cX8_combined 161 = .ok (.aload_n 3, 1) := by decide +kernel
theorem dX8_combined_162 : decode cX8_combined 162 = .ok (.aload 4, 2) := by decide +kernel
theorem dX8_combined_164 : decode cX8_combined 164 = .ok (.invokevirtual 245, 3) := by decide +kernel
theorem dX8_combined_167 : decode cX8_combined 167 = .ok (.areturn, 1) := by decide +kernel
theorem dX8_areSame_0 : decode cX8_areSame 0 = .ok (.aload_n 0, 1) := by decide +kernel
theorem dX8_areSame_1 : decode cX8_areSame 1 = .ok (.invokevirtual 248, 3) := by decide +kernel
theorem dX8_areSame_4 : decode cX8_areSame 4 = .ok (.ifCond .eq 28, 3) := by decide +kernel
theorem dX8_areSame_7 : decode cX8_areSame 7 = .ok (.aload_n 1, 1) := by decide +kernel
theorem dX8_areSame_8 : decode cX8_areSame 8 = .ok (.invokevirtual 248, 3) := by decide +kernel
theorem dX8_areSame_11 : decode cX8_areSame 11 = .ok (.ifCond .eq 21, 3) := by decide +kernel
theorem dX8_areSame_14 : decode cX8_areSame 14 = .ok (.aload_n 0, 1) := by decide +kernel
theorem dX8_areSame_15 : decode cX8_areSame 15 = .ok (.getfield 177, 3) := by decide +kernel
theorem dX8_areSame_18 : decode cX8_areSame 18 = .ok (.aload_n 1, 1) := by decide +kernel
theorem dX8_areSame_19 : decode cX8_areSame 19 = .ok (.getfield 177, 3) := by decide +kernel
theorem dX8_areSame_22 : decode cX8_areSame 22 = .ok (.dcmp .l, 1) := by decide +kernel
theorem dX8_areSame_23 : decode cX8_areSame 23 = .ok (.ifCond .ne 7, 3) := by decide +kernel
theorem dX8_areSame_26 : decode cX8_areSame 26 = .ok (.iconst 1, 1) := by decide +kernel
theorem dX8_areSame_27 : decode cX8_areSame 27 = .ok (.goto 4, 3) := by decide +kernel
theorem dX8_areSame_30 : decode cX8_areSame 30 = .ok (.iconst 0, 1) := by decide +kernel
theorem dX8_areSame_31 : decode cX8_areSame 31 = .ok (.ireturn, 1) := by decide +kernel
theorem dX8_areSame_32 : decode cX8_areSame 32 = .ok (.aload_n 0, 1) := by decide +kernel
theorem dX8_areSame_33 : decode cX8_areSame 33 = .ok (.getfield 109, 3) := by decide +kernel
theorem dX8_areSame_36 : decode cX8_areSame 36 = .ok (.aload_n 1, 1) := by decide +kernel
theorem dX8_areSame_37 : decode cX8_areSame 37 = .ok (.getfield 109, 3) := by decide +kernel
theorem dX8_areSame_40 : decode cX8_areSame 40 = .ok (.if_icmp .ne 32, 3) := by decide +kernel
theorem dX8_areSame_43 : decode cX8_areSame 43 = .ok (.aload_n 0, 1) := by decide +kernel
theorem dX8_areSame_44 : decode cX8_areSame 44 = .ok (.getfield 176, 3) := by decide +kernel
theorem dX8_areSame_47 : decode cX8_areSame 47 = .ok (.aload_n 1, 1) := by decide +kernel
theorem dX8_areSame_48 : decode cX8_areSame 48 = .ok (.getfield 176, 3) := by decide +kernel
theorem dX8_areSame_51 : decode cX8_areSame 51 = .ok (.if_icmp .ne 21, 3) := by decide +kernel
theorem dX8_areSame_54 : decode cX8_areSame 54 = .ok (.aload_n 0, 1) := by decide +kernel
theorem dX8_areSame_55 : decode cX8_areSame 55 = .ok (.getfield 112, 3) := by decide +kernel
theorem dX8_areSame_58 : decode cX8_areSame 58 = .ok (.aload_n 1, 1) := by decide +kernel
theorem dX8_areSame_59 : decode cX8_areSame 59 = .ok (.getfield 112, 3) := by decide +kernel
theorem dX8_areSame_62 : decode cX8_areSame 62 = .ok (.invokevirtual 251, 3) := by decide +kernel
theorem dX8_areSame_65 : decode cX8_areSame 65 = .ok (.ifCond .eq 7, 3) := by decide +kernel
theorem dX8_areSame_68 : decode cX8_areSame 68 = .ok (.iconst 1, 1) := by decide +kernel
theorem dX8_areSame_69 : decode cX8_areSame 69 = .ok (.goto 4, 3) := by decide +kernel
theorem dX8_areSame_72 : decode cX8_areSame 72 = .ok (.iconst 0, 1) := by decide +kernel
theorem dX8_areSame_73 : decode cX8_areSame 73 = .ok (.ireturn, 1) := by decide +kernel
theorem dX8_compare_0 : decode cX8_compare 0 = .ok (.aload_n 2, 1) := by decide +kernel
theorem dX8_compare_1 : decode cX8_compare 1 = .ok (.invokevirtual 248, 3) := by decide +kernel
theorem dX8_compare_4 : decode cX8_compare 4 = .ok (.ifCond .eq 10, 3) := by decide +kernel
theorem dX8_compare_7 : decode cX8_compare 7 = .ok (.aload_n 3, 1) := by decide +kernel
theorem dX8_compare_8 : decode cX8_compare 8 = .ok (.invokevirtual 248, 3) := by decide +kernel
theorem dX8_compare_11 : decode cX8_compare 11 = .ok (.ifCond .ne 9, 3) := by decide +kernel
theorem dX8_compare_14 : decode cX8_compare 14 = .ok (.aload_n 0, 1) := by decide +kernel
theorem dX8_compare_15 : decode cX8_compare 15 = .ok (.iconst 1, 1) := by decide +kernel
theorem dX8_compare_16 : decode cX8_compare 16 = .ok (.invokevirtual 50, 3) := by decide +kernel
theorem dX8_compare_19 : decode cX8_compare 19 = .ok (.areturn, 1) := by decide +kernel
theorem dX8_compare_20 : decode cX8_compare 20 = .ok (.iload_n 1, 1) := by decide +kernel
theorem dX8_compare_21 : decode cX8_compare 21 = .ok (.lookupswitch 98 #[(60, 35), (62, 56), (15421, 77)], 35) := by decide +kernel
theorem dX8_compare_56 : decode cX8_compare 56 = .ok (.aload_n 2, 1) := by decide +kernel
theorem dX8_compare_57 : decode cX8_compare 57 = .ok (.getfield 177, 3) := by decide +kernel
theorem dX8_compare_60 : decode cX8_compare 60 = .ok (.aload_n 3, 1) := by decide +kernel
theorem dX8_compare_61 : decode cX8_compare 61 = .ok (.getfield 177, 3) := by decide +kernel
theorem dX8_compare_64 : decode cX8_compare 64 = .ok (.dcmp .g, 1) := by decide +kernel
theorem dX8_compare_65 : decode cX8_compare 65 = .ok (.ifCond .ge 7, 3) := by decide +kernel
theorem dX8_compare_68 : decode cX8_compare 68 = .ok (.iconst 1, 1) := by decide +kernel
theorem dX8_compare_69 : decode cX8_compare 69 = .ok (.goto 4, 3) := by decide +kernel
theorem dX8_compare_72 : decode cX8_compare 72 = .ok (.iconst 0, 1) := by decide +kernel
theorem dX8_compare_73 : decode cX8_compare 73 = .ok (.invokestatic 189, 3) := by decide +kernel
theorem dX8_compare_76 : decode cX8_compare 76 = .ok (.areturn, 1) := by decide +kernel
theorem dX8_compare_77 : decode cX8_compare 77 = .ok (.aload_n 2, 1) := by decide +kernel
theorem dX8_compare_78 : decode cX8_compare 78 = .ok (.getfield 177, 3) := by decide +kernel
theorem dX8_compare_81 : decode cX8_compare 81 = .ok (.aload_n 3, 1) := by decide +kernel
theorem dX8_compare_82 : decode cX8_compare 82 = .ok (.getfield 177, 3) := by decide +kernel
theorem dX8_compare_85 : decode cX8_compare 85 = .ok (.dcmp .l, 1) := by decide +kernel
theorem dX8_compare_86 : decode cX8_compare 86 = .ok (.ifCond .le 7, 3) := by decide +kernel
theorem dX8_compare_89 : decode cX8_compare 89 = .ok (.iconst 1, 1) := by decide +kernel
theorem dX8_compare_90 : decode cX8_compare 90 = .ok (.goto 4, 3) := by decide +kernel
theorem dX8_compare_93 : decode cX8_compare 93 = .ok (.iconst 0, 1) := by decide +kernel
theorem dX8_compare_94 : decode cX8_compare 94 = .ok (.invokestatic 189, 3) := by decide +kernel
theorem dX8_compare_97 : decode cX8_compare 97 = .ok (.areturn, 1) := by decide +kernel
theorem dX8_compare_98 : decode cX8_compare 98 = .ok (.aload_n 2, 1) := by decide +kernel
theorem dX8_compare_99 : decode cX8_compare 99 = .ok (.getfield 177, 3) := by decide +kernel
theorem dX8_compare_102 : decode cX8_compare 102 = .ok (.aload_n 3, 1) := by decide +kernel
theorem dX8_compare_103 : decode cX8_compare 103 = .ok (.getfield 177, 3) := by decide +kernel
theorem dX8_compare_106 : decode cX8_compare 106 = .ok (.dcmp .g, 1) := by decide +kernel
theorem dX8_compare_107 : decode cX8_compare 107 = .ok (.ifCond .gt 7, 3) := by decide +kernel
theorem dX8_compare_110 : decode cX8_compare 110 = .ok (.iconst 1, 1) := by decide +kernel
theorem dX8_compare_111 : decode cX8_compare 111 = .ok (.goto 4, 3) := by decide +kernel
theorem dX8_compare_114 : decode cX8_compare 114 = .ok (.iconst 0, 1) := by decide +kernel
theorem dX8_compare_115 : decode cX8_compare 115 = .ok (.invokestatic 189, 3) := by decide +kernel
theorem dX8_compare_118 : decode cX8_compare 118 = .ok (.areturn, 1) := by decide +kernel
theorem dX8_compare_119 : decode cX8_compare 119 = .ok (.aload_n 2, 1) := by decide +kernel
theorem dX8_compare_120 : decode cX8_compare 120 = .ok (.getfield 177, 3) := by decide +kernel
theorem dX8_compare_123 : decode cX8_compare 123 = .ok (.aload_n 3, 1) := by decide +kernel
theorem dX8_compare_124 : decode cX8_compare 124 = .ok (.getfield 177, 3) := by decide +kernel
theorem dX8_compare_127 : decode cX8_compare 127 = .ok (.dcmp .l, 1) := by decide +kernel
theorem dX8_compare_128 : decode cX8_compare 128 = .ok (.ifCond .lt 7, 3) := by decide +kernel
theorem dX8_compare_131 : decode cX8_compare 131 = .ok (.iconst 1, 1) := by decide +kernel
theorem dX8_compare_132 : decode cX8_compare 132 = .ok (.goto 4, 3) := by decide +kernel
theorem dX8_compare_135 : decode cX8_compare 135 = .ok (.iconst 0, 1) := by decide +kernel
theorem dX8_compare_136 : decode cX8_compare 136 = .ok (.invokestatic 189, 3) := by decide +kernel
theorem dX8_compare_139 : decode cX8_compare 139 = .ok (.areturn, 1) := by decide +kernel
theorem dX8_add_0 : decode cX8_add 0 = .ok (.aload_n 1, 1) := by decide +kernel
theorem dX8_add_1 : decode cX8_add 1 = .ok (.aload_n 2, 1) := by decide +kernel
theorem dX8_add_2 : decode cX8_add 2 = .ok (.invokestatic 255, 3) := by decide +kernel
theorem dX8_add_5 : decode cX8_add 5 = .ok (.ifCond .ne 20, 3) := by decide +kernel
theorem dX8_add_8 : decode cX8_add 8 = .ok (.aload_n 2, 1) := by decide +kernel
theorem dX8_add_9 : decode cX8_add 9 = .ok (.aload_n 1, 1) := by decide +kernel
theorem dX8_add_10 : decode cX8_add 10 = .ok (.invokestatic 255, 3) := by decide +kernel
theorem dX8_add_13 : decode cX8_add 13 = .ok (.ifCond .ne 12, 3) := by decide +kernel
theorem dX8_add_16 : decode cX8_add 16 = .ok (.aload_n 0, 1) := by decide +kernel
theorem dX8_add_17 : decode cX8_add 17 = .ok (.bipush 43, 2) := by decide +kernel
theorem dX8_add_19 : decode cX8_add 19 = .ok (.aload_n 1, 1) := by decide +kernel
theorem dX8_add_20 : decode cX8_add 20 = .ok (.aload_n 2, 1) := by decide +kernel
theorem dX8_add_21 : decode cX8_add 21 = .ok (.invokevirtual 241, 3) := by decide +kernel
theorem dX8_add_24 : decode cX8_add 24 = .ok (.areturn, 1) := by decide +kernel
theorem dX8_add_25 : decode cX8_add 25 = .ok (.aload_n 0, 1) := by decide +kernel
theorem dX8_add_26 : decode cX8_add 26 = .ok (.getfield 24, 3) := by decide +kernel
theorem dX8_add_29 : decode cX8_add 29 = .ok (.aload_n 1, 1) := by decide +kernel
theorem dX8_add_30 : decode cX8_add 30 = .ok (.aload_n 2, 1) := by decide +kernel
theorem dX8_add_31 : decode cX8_add 31 = .ok (.invokevirtual 258, 3) := by decide +kernel
theorem dX8_add_34 : decode cX8_add 34 = .ok (.astore_n 3, 1) := by decide +kernel
theorem dX8_add_35 : decode cX8_add 35 = .ok (.aload_n 3, 1) := by decide +kernel
theorem dX8_add_36 : decode cX8_add 36 = .ok (.ifnonnull 12, 3) := by decide +kernel
theorem dX8_add_39 : decode cX8_add 39 = .ok (.aload_n 0, 1) := by decide +kernel
theorem dX8_add_40 : decode cX8_add 40 = .ok (.bipush 9, 2) := by decide +kernel
theorem dX8_add_42 : decode cX8_add 42 = .ok (.invokevirtual 50, 3) := by decide +kernel
theorem dX8_add_45 : decode cX8_add 45 = .ok (.goto 4, 3) := by decide +kernel
theorem dX8_add_48 : decode cX8_add 48 = .ok (.aload_n 3, 1) := by decide +kernel
theorem dX8_add_49 : decode cX8_add 49 = .ok (.areturn, 1) := by decide +kernel
theorem dX8_joins_0 : decode cX8_joins 0 = .ok (.aload_n 0, 1) := by decide +kernel
theorem dX8_joins_1 : decode cX8_joins 1 = .ok (.getfield 109, 3) := by decide +kernel
theorem dX8_joins_4 : decode cX8_joins 4 = .ok (.iconst 4, 1) := by decide +kernel
theorem dX8_joins_5 : decode cX8_joins 5 = .ok (.if_icmp .ne 23, 3) := by decide +kernel
theorem dX8_joins_8 : decode cX8_joins 8 = .ok (.aload_n 1, 1) := by decide +kernel
theorem dX8_joins_9 : decode cX8_joins 9 = .ok (.getfield 109, 3) := by decide +kernel
theorem dX8_joins_12 : decode cX8_joins 12 = .ok (.iconst 4, 1) := by decide +kernel
theorem dX8_joins_13 : decode cX8_joins 13 = .ok (.if_icmp .gt 15, 3) := by decide +kernel
theorem dX8_joins_16 : decode cX8_joins 16 = .ok (.aload_n 1, 1) := by decide +kernel
theorem dX8_joins_17 : decode cX8_joins 17 = .ok (.getfield 109, 3) := by decide +kernel
theorem dX8_joins_20 : decode cX8_joins 20 = .ok (.iconst 3, 1) := by decide +kernel
theorem dX8_joins_21 : decode cX8_joins 21 = .ok (.if_icmp .eq 7, 3) := by decide +kernel
theorem dX8_joins_24 : decode cX8_joins 24 = .ok (.iconst 1, 1) := by decide +kernel
theorem dX8_joins_25 : decode cX8_joins 25 = .ok (.goto 4, 3) := by decide +kernel
theorem dX8_joins_28 : decode cX8_joins 28 = .ok (.iconst 0, 1) := by decide +kernel
theorem dX8_joins_29 : decode cX8_joins 29 = .ok (.ireturn, 1) := by decide +kernel
theorem dX8_calculate_0 : decode cX8_calculate 0 = .ok (.aload_n 2, 1) := by decide +kernel
theorem dX8_calculate_1 : decode cX8_calculate 1 = .ok (.getfield 109, 3) := by decide +kernel
theorem dX8_calculate_4 : decode cX8_calculate 4 = .ok (.iconst 2, 1) := by decide +kernel
theorem dX8_calculate_5 : decode cX8_calculate 5 = .ok (.if_icmp .ne 25, 3) := by decide +kernel
theorem dX8_calculate_8 : decode cX8_calculate 8 = .ok (.aload_n 3, 1) := by decide +kernel
theorem dX8_calculate_9 : decode cX8_calculate 9 = .ok (.getfield 109, 3) := by decide +kernel
theorem dX8_calculate_12 : decode cX8_calculate 12 = .ok (.iconst 2, 1) := by decide +kernel
theorem dX8_calculate_13 : decode cX8_calculate 13 = .ok (.if_icmp .ne 17, 3) := by decide +kernel
theorem dX8_calculate_16 : decode cX8_calculate 16 = .ok (.aload_n 0, 1) := by decide +kernel
theorem dX8_calculate_17 : decode cX8_calculate 17 = .ok (.iload_n 1, 1) := by decide +kernel
theorem dX8_calculate_18 : decode cX8_calculate 18 = .ok (.aload_n 2, 1) := by decide +kernel
theorem dX8_calculate_19 : decode cX8_calculate 19 = .ok (.getfield 176, 3) := by decide +kernel
theorem dX8_calculate_22 : decode cX8_calculate 22 = .ok (.aload_n 3, 1) := by decide +kernel
theorem dX8_calculate_23 : decode cX8_calculate 23 = .ok (.getfield 176, 3) := by decide +kernel
theorem dX8_calculate_26 : decode cX8_calculate 26 = .ok (.invokevirtual 261, 3) := by decide +kernel
theorem dX8_calculate_29 : decode cX8_calculate 29 = .ok (.areturn, 1) := by decide +kernel
theorem dX8_calculate_30 : decode cX8_calculate 30 = .ok (.iload_n 1, 1) := by decide +kernel
theorem dX8_calculate_31 : decode cX8_calculate 31 = .ok (.bipush 37, 2) := by decide +kernel
theorem dX8_calculate_33 : decode cX8_calculate 33 = .ok (.if_icmp .eq 17, 3) := by decide +kernel
theorem dX8_calculate_36 : decode cX8_calculate 36 = .ok (.aload_n 2, 1) := by decide +kernel
theorem dX8_calculate_37 : decode cX8_calculate 37 = .ok (.invokevirtual 248, 3) := by decide +kernel
theorem dX8_calculate_40 : decode cX8_calculate 40 = .ok (.ifCond .eq 10, 3) := by decide +kernel
theorem dX8_calculate_43 : decode cX8_calculate 43 = .ok (.aload_n 3, 1) := by decide +kernel
theorem dX8_calculate_44 : decode cX8_calculate 44 = .ok (.invokevirtual 248, 3) := by decide +kernel
theorem dX8_calculate_47 : decode cX8_calculate 47 = .ok (.ifCond .ne 9, 3) := by decide +kernel
theorem dX8_calculate_50 : decode cX8_calculate 50 = .ok (.aload_n 0, 1) := by decide +kernel
theorem dX8_calculate_51 : decode cX8_calculate 51 = .ok (.iconst 1, 1) := by decide +kernel
theorem dX8_calculate_52 : decode cX8_calculate 52 = .ok (.invokevirtual 50, 3) := by decide +kernel
theorem dX8_calculate_55 : decode cX8_calculate 55 = .ok (.areturn, 1) := by decide +kernel
theorem dX8_calculate_56 : decode cX8_calculate 56 = .ok (.aload_n 0, 1) := by decide +kernel
theorem dX8_calculate_57 : decode cX8_calculate 57 = .ok (.iload_n 1, 1) := by decide +kernel
theorem dX8_calculate_58 : decode cX8_calculate 58 = .ok (.aload_n 2, 1) := by decide +kernel
theorem dX8_calculate_59 : decode cX8_calculate 59 = .ok (.getfield 177, 3) := by decide +kernel
theorem dX8_calculate_62 : decode cX8_calculate 62 = .ok (.aload_n 3, 1) := by decide +kernel
theorem dX8_calculate_63 : decode cX8_calculate 63 = .ok (.getfield 177, 3) := by decide +kernel
theorem dX8_calculate_66 : decode cX8_calculate 66 = .ok (.invokevirtual 265, 3) := by decide +kernel
theorem dX8_calculate_69 : decode cX8_calculate 69 = .ok (.areturn, 1) := by decide +kernel
theorem dX8_ofInts_0 : decode cX8_ofInts 0 = .ok (.iload_n 1, 1) := by decide +kernel
theorem dX8_ofInts_1 : decode cX8_ofInts 1 = .ok (.tableswitch 79 42 47 #[53, 39, 79, 46, 79, 60], 39) := by decide +kernel
theorem dX8_ofInts_40 : decode cX8_ofInts 40 = .ok (.iload_n 2, 1) := by decide +kernel
theorem dX8_ofInts_41 : decode cX8_ofInts 41 = .ok (.iload_n 3, 1) := by decide +kernel
theorem dX8_ofInts_42 : decode cX8_ofInts 42 = .ok (.iadd, 1) := by decide +kernel
theorem dX8_ofInts_43 : decode cX8_ofInts 43 = .ok (.invokestatic 122, 3) := by decide +kernel
theorem dX8_ofInts_46 : decode cX8_ofInts 46 = .ok (.areturn, 1) := by decide +kernel
theorem dX8_ofInts_47 : decode cX8_ofInts 47 = .ok (.iload_n 2, 1) := by decide +kernel
theorem dX8_ofInts_48 : decode cX8_ofInts 48 = .ok (.iload_n 3, 1) := by decide +kernel
theorem dX8_ofInts_49 : decode cX8_ofInts 49 = .ok (.isub, 1) := by decide +kernel
theorem dX8_ofInts_50 : decode cX8_ofInts 50 = .ok (.invokestatic 122, 3) := by decide +kernel
theorem dX8_ofInts_53 : decode cX8_ofInts 53 = .ok (.areturn, 1) := by decide +kernel
theorem dX8_ofInts_54 : decode cX8_ofInts 54 = .ok (.iload_n 2, 1) := by decide +kernel
theorem dX8_ofInts_55 : decode cX8_ofInts 55 = .ok (.iload_n 3, 1) := by decide +kernel
theorem dX8_ofInts_56 : decode cX8_ofInts 56 = .ok (.imul, 1) := by decide +kernel
theorem dX8_ofInts_57 : decode cX8_ofInts 57 = .ok (.invokestatic 122, 3) := by decide +kernel
theorem dX8_ofInts_60 : decode cX8_ofInts 60 = .ok (.areturn, 1) := by decide +kernel
theorem dX8_ofInts_61 : decode cX8_ofInts 61 = .ok (.iload_n 3, 1) := by decide +kernel
theorem dX8_ofInts_62 : decode cX8_ofInts 62 = .ok (.ifCond .ne 11, 3) := by decide +kernel
theorem dX8_ofInts_65 : decode cX8_ofInts 65 = .ok (.aload_n 0, 1) := by decide +kernel
theorem dX8_ofInts_66 : decode cX8_ofInts 66 = .ok (.iconst 2, 1) := by decide +kernel
theorem dX8_ofInts_67 : decode cX8_ofInts 67 = .ok (.invokevirtual 50, 3) := by decide +kernel
theorem dX8_ofInts_70 : decode cX8_ofInts 70 = .ok (.goto 9, 3) := by decide +kernel
theorem dX8_ofInts_73 : decode cX8_ofInts 73 = .ok (.iload_n 2, 1) := by decide +kernel
theorem dX8_ofInts_74 : decode cX8_ofInts 74 = .ok (.iload_n 3, 1) := by decide +kernel
theorem dX8_ofInts_75 : decode cX8_ofInts 75 = .ok (.idiv, 1) := by decide +kernel
theorem dX8_ofInts_76 : decode cX8_ofInts 76 = .ok (.invokestatic 122, 3) := by decide +kernel
theorem dX8_ofInts_79 : decode cX8_ofInts 79 = .ok (.areturn, 1) := by decide +kernel
theorem dX8_ofInts_80 : decode cX8_ofInts 80 = .ok (.iload_n 3, 1) := by decide +kernel
theorem dX8_ofInts_81 : decode cX8_ofInts 81 = .ok (.ifCond .ne 11, 3) := by decide +kernel
theorem dX8_ofInts_84 : decode cX8_ofInts 84 = .ok (.aload_n 0, 1) := by decide +kernel
theorem dX8_ofInts_85 : decode cX8_ofInts 85 = .ok (.iconst 2, 1) := by decide +kernel
theorem dX8_ofInts_86 : decode cX8_ofInts 86 = .ok (.invokevirtual 50, 3) := by decide +kernel
theorem dX8_ofInts_89 : decode cX8_ofInts 89 = .ok (.goto 9, 3) := by decide +kernel
theorem dX8_ofInts_92 : decode cX8_ofInts 92 = .ok (.iload_n 2, 1) := by decide +kernel
theorem dX8_ofInts_93 : decode cX8_ofInts 93 = .ok (.iload_n 3, 1) := by decide +kernel
theorem dX8_ofInts_94 : decode cX8_ofInts 94 = .ok (.irem, 1) := by decide +kernel
theorem dX8_ofInts_95 : decode cX8_ofInts 95 = .ok (.invokestatic 122, 3) := by decide +kernel
theorem dX8_ofInts_98 : decode cX8_ofInts 98 = .ok (.areturn, 1) := by decide +kernel
theorem dX8_ofReals_0 : decode cX8_ofReals 0 = .ok (.iload_n 1, 1) := by decide +kernel
theorem dX8_ofReals_1 : decode cX8_ofReals 1 = .ok (.bipush 47, 2) := by decide +kernel
theorem dX8_ofReals_3 : decode cX8_ofReals 3 = .ok (.if_icmp .ne 16, 3) := by decide +kernel
theorem dX8_ofReals_6 : decode cX8_ofReals 6 = .ok (.dload 4, 2) := by decide +kernel
theorem dX8_ofReals_8 : decode cX8_ofReals 8 = .ok (.dconst 0, 1) := by decide +kernel
theorem dX8_ofReals_9 : decode cX8_ofReals 9 = .ok (.dcmp .l, 1) := by decide +kernel
theorem dX8_ofReals_10 : decode cX8_ofReals 10 = .ok (.ifCond .ne 9, 3) := by decide +kernel
theorem dX8_ofReals_13 : decode cX8_ofReals 13 = .ok (.aload_n 0, 1) := by decide +kernel
theorem dX8_ofReals_14 : decode cX8_ofReals 14 = .ok (.iconst 2, 1) := by decide +kernel
theorem dX8_ofReals_15 : decode cX8_ofReals 15 = .ok (.invokevirtual 50, 3) := by decide +kernel
theorem dX8_ofReals_18 : decode cX8_ofReals 18 = .ok (.areturn, 1) := by decide +kernel
theorem dX8_ofReals_19 : decode cX8_ofReals 19 = .ok (.iload_n 1, 1) := by decide +kernel
theorem dX8_ofReals_20 : decode cX8_ofReals 20 = .ok (.bipush 43, 2) := by decide +kernel
theorem dX8_ofReals_22 : decode cX8_ofReals 22 = .ok (.if_icmp .ne 10, 3) := by decide +kernel
theorem dX8_ofReals_25 : decode cX8_ofReals 25 = .ok (.dload_n 2, 1) := by decide +kernel
