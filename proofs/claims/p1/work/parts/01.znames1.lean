theorem dX11_parse_41 : decode cX11_parse 41 = .ok (.getfield 84, 3) := by decide +kernel
theorem dX11_parse_44 : decode cX11_parse 44 = .ok (.imul, 1) := by decide +kernel
theorem dX11_parse_45 : decode cX11_parse 45 = .ok (.aload_n 0, 1) := by decide +kernel
theorem dX11_parse_46 : decode cX11_parse 46 = .ok (.getfield 10, 3) := by decide +kernel
theorem dX11_parse_49 : decode cX11_parse 49 = .ok (.getfield 87, 3) := by decide +kernel
theorem dX11_parse_52 : decode cX11_parse 52 = .ok (.isub, 1) := by decide +kernel
theorem dX11_parse_53 : decode cX11_parse 53 = .ok (.ireturn, 1) := by decide +kernel
theorem dX11_type_0 : decode cX11_type 0 = .ok (.aload_n 0, 1) := by decide +kernel
theorem dX11_type_1 : decode cX11_type 1 = .ok (.iload_n 1, 1) := by decide +kernel
theorem dX11_type_2 : decode cX11_type 2 = .ok (.invokevirtual 90, 3) := by decide +kernel
theorem dX11_type_5 : decode cX11_type 5 = .ok (.astore_n 2, 1) := by decide +kernel
theorem dX11_type_6 : decode cX11_type 6 = .ok (.aload_n 2, 1) := by decide +kernel
theorem dX11_type_7 : decode cX11_type 7 = .ok (.ifnonnull 18, 3) := by decide +kernel
theorem dX11_type_10 : decode cX11_type 10 = .ok (.iload_n 1, 1) := by decide +kernel
theorem dX11_type_11 : decode cX11_type 11 = .ok (.iconst (-1), 1) := by decide +kernel
theorem dX11_type_12 : decode cX11_type 12 = .ok (.if_icmp .eq 13, 3) := by decide +kernel
theorem dX11_type_15 : decode cX11_type 15 = .ok (.new 49, 3) := by decide +kernel
theorem dX11_type_18 : decode cX11_type 18 = .ok (.dup, 1) := by decide +kernel
theorem dX11_type_19 : decode cX11_type 19 = .ok (.ldc 94, 2) := by decide +kernel
theorem dX11_type_21 : decode cX11_type 21 = .ok (.invokespecial 53, 3) := by decide +kernel
theorem dX11_type_24 : decode cX11_type 24 = .ok (.athrow, 1) := by decide +kernel
theorem dX11_type_25 : decode cX11_type 25 = .ok (.aload_n 0, 1) := by decide +kernel
theorem dX11_type_26 : decode cX11_type 26 = .ok (.getfield 96, 3) := by decide +kernel
theorem dX11_type_29 : decode cX11_type 29 = .ok (.aload_n 0, 1) := by decide +kernel
theorem dX11_type_30 : decode cX11_type 30 = .ok (.getfield 31, 3) := by decide +kernel
theorem dX11_type_33 : decode cX11_type 33 = .ok (.arraylength, 1) := by decide +kernel
theorem dX11_type_34 : decode cX11_type 34 = .ok (.if_icmp .lt 13, 3) := by decide +kernel
theorem dX11_type_47 : decode cX11_type 47 = .ok (.aload_n 0, 1) := by decide +kernel
theorem dX11_type_48 : decode cX11_type 48 = .ok (.getfield 31, 3) := by decide +kernel
theorem dX11_type_51 : decode cX11_type 51 = .ok (.aload_n 0, 1) := by decide +kernel
theorem dX11_type_52 : decode cX11_type 52 = .ok (.getfield 96, 3) := by decide +kernel
theorem dX11_type_55 : decode cX11_type 55 = .ok (.new 29, 3) := by decide +kernel
theorem dX11_type_58 : decode cX11_type 58 = .ok (.dup, 1) := by decide +kernel
theorem dX11_type_59 : decode cX11_type 59 = .ok (.aload_n 0, 1) := by decide +kernel
theorem dX11_type_60 : decode cX11_type 60 = .ok (.getfield 96, 3) := by decide +kernel
theorem dX11_type_63 : decode cX11_type 63 = .ok (.aload_n 2, 1) := by decide +kernel
theorem dX11_type_64 : decode cX11_type 64 = .ok (.invokespecial 101, 3) := by decide +kernel
theorem dX11_type_67 : decode cX11_type 67 = .ok (.aastore, 1) := by decide +kernel
theorem dX11_type_68 : decode cX11_type 68 = .ok (.aload_n 0, 1) := by decide +kernel
theorem dX11_type_69 : decode cX11_type 69 = .ok (.dup, 1) := by decide +kernel
theorem dX11_type_70 : decode cX11_type 70 = .ok (.getfield 96, 3) := by decide +kernel
theorem dX11_type_73 : decode cX11_type 73 = .ok (.iconst 1, 1) := by decide +kernel
theorem dX11_type_74 : decode cX11_type 74 = .ok (.iadd, 1) := by decide +kernel
theorem dX11_type_75 : decode cX11_type 75 = .ok (.putfield 96, 3) := by decide +kernel
theorem dX11_type_78 : decode cX11_type 78 = .ok (.aload_n 0, 1) := by decide +kernel
theorem dX11_type_79 : decode cX11_type 79 = .ok (.getfield 96, 3) := by decide +kernel
theorem dX11_type_82 : decode cX11_type 82 = .ok (.iconst 1, 1) := by decide +kernel
theorem dX11_type_83 : decode cX11_type 83 = .ok (.isub, 1) := by decide +kernel
theorem dX11_type_84 : decode cX11_type 84 = .ok (.ireturn, 1) := by decide +kernel
theorem dX11_field_0 : decode cX11_field 0 = .ok (.aload_n 0, 1) := by decide +kernel
theorem dX11_field_1 : decode cX11_field 1 = .ok (.iload_n 1, 1) := by decide +kernel
theorem dX11_field_2 : decode cX11_field 2 = .ok (.invokevirtual 90, 3) := by decide +kernel
theorem dX11_field_5 : decode cX11_field 5 = .ok (.astore 4, 2) := by decide +kernel
theorem dX11_field_7 : decode cX11_field 7 = .ok (.aload 4, 2) := by decide +kernel
theorem dX11_field_9 : decode cX11_field 9 = .ok (.ifnull 18, 3) := by decide +kernel
theorem dX11_field_27 : decode cX11_field 27 = .ok (.new 49, 3) := by decide +kernel
theorem dX11_field_30 : decode cX11_field 30 = .ok (.dup, 1) := by decide +kernel
theorem dX11_field_31 : decode cX11_field 31 = .ok (.ldc 111, 2) := by decide +kernel
theorem dX11_field_33 : decode cX11_field 33 = .ok (.invokespecial 53, 3) := by decide +kernel
theorem dX11_field_36 : decode cX11_field 36 = .ok (.athrow, 1) := by decide +kernel
theorem dX11_method_0 : decode cX11_method 0 = .ok (.aload_n 0, 1) := by decide +kernel
theorem dX11_method_1 : decode cX11_method 1 = .ok (.iload_n 1, 1) := by decide +kernel
theorem dX11_method_2 : decode cX11_method 2 = .ok (.invokevirtual 90, 3) := by decide +kernel
theorem dX11_method_5 : decode cX11_method 5 = .ok (.astore 7, 2) := by decide +kernel
theorem dX11_method_7 : decode cX11_method 7 = .ok (.aload 7, 2) := by decide +kernel
theorem dX11_method_9 : decode cX11_method 9 = .ok (.ifnull 31, 3) := by decide +kernel
theorem dX11_method_40 : decode cX11_method 40 = .ok (.new 49, 3) := by decide +kernel
theorem dX11_method_43 : decode cX11_method 43 = .ok (.dup, 1) := by decide +kernel
theorem dX11_method_44 : decode cX11_method 44 = .ok (.ldc 133, 2) := by decide +kernel
theorem dX11_method_46 : decode cX11_method 46 = .ok (.invokespecial 53, 3) := by decide +kernel
theorem dX11_method_49 : decode cX11_method 49 = .ok (.athrow, 1) := by decide +kernel
theorem dX11_make_0 : decode cX11_make 0 = .ok (.aload_n 0, 1) := by decide +kernel
theorem dX11_make_1 : decode cX11_make 1 = .ok (.iload_n 1, 1) := by decide +kernel
theorem dX11_make_2 : decode cX11_make 2 = .ok (.invokevirtual 90, 3) := by decide +kernel
theorem dX11_make_5 : decode cX11_make 5 = .ok (.astore_n 2, 1) := by decide +kernel
theorem dX11_make_6 : decode cX11_make 6 = .ok (.aload_n 2, 1) := by decide +kernel
theorem dX11_make_7 : decode cX11_make 7 = .ok (.ifnonnull 13, 3) := by decide +kernel
theorem dX11_make_10 : decode cX11_make 10 = .ok (.new 49, 3) := by decide +kernel
theorem dX11_make_13 : decode cX11_make 13 = .ok (.dup, 1) := by decide +kernel
theorem dX11_make_14 : decode cX11_make 14 = .ok (.ldc 149, 2) := by decide +kernel
theorem dX11_make_16 : decode cX11_make 16 = .ok (.invokespecial 53, 3) := by decide +kernel
theorem dX11_make_19 : decode cX11_make 19 = .ok (.athrow, 1) := by decide +kernel
theorem dX11_converter_0 : decode cX11_converter 0 = .ok (.iload_n 1, 1) := by decide +kernel
theorem dX11_converter_1 : decode cX11_converter 1 = .ok (.iconst 1, 1) := by decide +kernel
theorem dX11_converter_2 : decode cX11_converter 2 = .ok (.if_icmp .lt 8, 3) := by decide +kernel
theorem dX11_converter_5 : decode cX11_converter 5 = .ok (.iload_n 1, 1) := by decide +kernel
theorem dX11_converter_6 : decode cX11_converter 6 = .ok (.iconst 5, 1) := by decide +kernel
theorem dX11_converter_7 : decode cX11_converter 7 = .ok (.if_icmp .le 15, 3) := by decide +kernel
theorem dX11_converter_10 : decode cX11_converter 10 = .ok (.iload_n 1, 1) := by decide +kernel
theorem dX11_converter_11 : decode cX11_converter 11 = .ok (.bipush 8, 2) := by decide +kernel
theorem dX11_converter_13 : decode cX11_converter 13 = .ok (.if_icmp .lt 13, 3) := by decide +kernel
theorem dX11_converter_16 : decode cX11_converter 16 = .ok (.iload_n 1, 1) := by decide +kernel
theorem dX11_converter_17 : decode cX11_converter 17 = .ok (.bipush 13, 2) := by decide +kernel
theorem dX11_converter_19 : decode cX11_converter 19 = .ok (.if_icmp .ge 7, 3) := by decide +kernel
theorem dX11_converter_22 : decode cX11_converter 22 = .ok (.iconst 1, 1) := by decide +kernel
theorem dX11_converter_23 : decode cX11_converter 23 = .ok (.goto 4, 3) := by decide +kernel
theorem dX11_converter_26 : decode cX11_converter 26 = .ok (.iconst 0, 1) := by decide +kernel
theorem dX11_converter_27 : decode cX11_converter 27 = .ok (.istore 4, 2) := by decide +kernel
theorem dX11_converter_29 : decode cX11_converter 29 = .ok (.iload 4, 2) := by decide +kernel
theorem dX11_converter_31 : decode cX11_converter 31 = .ok (.ifCond .eq 18, 3) := by decide +kernel
theorem dX11_converter_34 : decode cX11_converter 34 = .ok (.iload_n 2, 1) := by decide +kernel
theorem dX11_converter_35 : decode cX11_converter 35 = .ok (.iconst 1, 1) := by decide +kernel
theorem dX11_converter_36 : decode cX11_converter 36 = .ok (.if_icmp .lt 13, 3) := by decide +kernel
theorem dX11_converter_39 : decode cX11_converter 39 = .ok (.iload_n 2, 1) := by decide +kernel
theorem dX11_converter_40 : decode cX11_converter 40 = .ok (.iconst 4, 1) := by decide +kernel
theorem dX11_converter_41 : decode cX11_converter 41 = .ok (.if_icmp .gt 8, 3) := by decide +kernel
theorem dX11_converter_44 : decode cX11_converter 44 = .ok (.iload_n 1, 1) := by decide +kernel
theorem dX11_converter_45 : decode cX11_converter 45 = .ok (.iload_n 2, 1) := by decide +kernel
theorem dX11_converter_46 : decode cX11_converter 46 = .ok (.if_icmp .ne 13, 3) := by decide +kernel
theorem dX11_converter_49 : decode cX11_converter 49 = .ok (.new 49, 3) := by decide +kernel
theorem dX11_converter_52 : decode cX11_converter 52 = .ok (.dup, 1) := by decide +kernel
theorem dX11_converter_53 : decode cX11_converter 53 = .ok (.ldc 165, 2) := by decide +kernel
theorem dX11_converter_55 : decode cX11_converter 55 = .ok (.invokespecial 53, 3) := by decide +kernel
theorem dX11_converter_58 : decode cX11_converter 58 = .ok (.athrow, 1) := by decide +kernel
theorem dX11_converter_59 : decode cX11_converter 59 = .ok (.aload_n 0, 1) := by decide +kernel
theorem dX11_converter_60 : decode cX11_converter 60 = .ok (.getfield 19, 3) := by decide +kernel
theorem dX11_converter_63 : decode cX11_converter 63 = .ok (.getfield 167, 3) := by decide +kernel
theorem dX11_converter_66 : decode cX11_converter 66 = .ok (.iload_n 1, 1) := by decide +kernel
theorem dX11_converter_67 : decode cX11_converter 67 = .ok (.iload_n 2, 1) := by decide +kernel
theorem dX11_converter_68 : decode cX11_converter 68 = .ok (.iload_n 3, 1) := by decide +kernel
theorem dX11_converter_69 : decode cX11_converter 69 = .ok (.invokevirtual 171, 3) := by decide +kernel
theorem dX11_converter_72 : decode cX11_converter 72 = .ok (.ireturn, 1) := by decide +kernel
theorem dX11_run_0 : decode cX11_run 0 = .ok (.iload_n 1, 1) := by decide +kernel
theorem dX11_run_1 : decode cX11_run 1 = .ok (.ifCond .lt 29, 3) := by decide +kernel
theorem dX11_run_4 : decode cX11_run 4 = .ok (.iload_n 1, 1) := by decide +kernel
theorem dX11_run_5 : decode cX11_run 5 = .ok (.aload_n 0, 1) := by decide +kernel
theorem dX11_run_6 : decode cX11_run 6 = .ok (.getfield 75, 3) := by decide +kernel
theorem dX11_run_9 : decode cX11_run 9 = .ok (.if_icmp .ge 21, 3) := by decide +kernel
theorem dX11_run_30 : decode cX11_run 30 = .ok (.aconst_null, 1) := by decide +kernel
theorem dX11_run_31 : decode cX11_run 31 = .ok (.astore_n 3, 1) := by decide +kernel
theorem dX11_run_32 : decode cX11_run 32 = .ok (.iload_n 2, 1) := by decide +kernel
theorem dX11_run_33 : decode cX11_run 33 = .ok (.iconst (-1), 1) := by decide +kernel
theorem dX11_run_34 : decode cX11_run 34 = .ok (.if_icmp .ne 13, 3) := by decide +kernel
theorem dX11_run_37 : decode cX11_run 37 = .ok (.aload_n 0, 1) := by decide +kernel
theorem dX11_run_38 : decode cX11_run 38 = .ok (.getfield 19, 3) := by decide +kernel
theorem dX11_run_41 : decode cX11_run 41 = .ok (.getfield 155, 3) := by decide +kernel
theorem dX11_run_44 : decode cX11_run 44 = .ok (.goto 8, 3) := by decide +kernel
theorem dX11_run_47 : decode cX11_run 47 = .ok (.aload_n 0, 1) := by decide +kernel
theorem dX11_run_48 : decode cX11_run 48 = .ok (.iload_n 2, 1) := by decide +kernel
theorem dX11_run_49 : decode cX11_run 49 = .ok (.invokevirtual 177, 3) := by decide +kernel
theorem dX11_run_52 : decode cX11_run 52 = .ok (.astore 4, 2) := by decide +kernel
theorem dX11_run_54 : decode cX11_run 54 = .ok (.aload_n 3, 1) := by decide +kernel
theorem dX11_run_55 : decode cX11_run 55 = .ok (.ifnull 8, 3) := by decide +kernel
theorem dX11_run_63 : decode cX11_run 63 = .ok (.new 49, 3) := by decide +kernel
theorem dX11_run_66 : decode cX11_run 66 = .ok (.dup, 1) := by decide +kernel
theorem dX11_run_67 : decode cX11_run 67 = .ok (.ldc 181, 2) := by decide +kernel
theorem dX11_run_69 : decode cX11_run 69 = .ok (.invokespecial 53, 3) := by decide +kernel
theorem dX11_run_72 : decode cX11_run 72 = .ok (.athrow, 1) := by decide +kernel
theorem dX11_keep_0 : decode cX11_keep 0 = .ok (.iload_n 1, 1) := by decide +kernel
theorem dX11_keep_1 : decode cX11_keep 1 = .ok (.invokestatic 104, 3) := by decide +kernel
theorem dX11_keep_4 : decode cX11_keep 4 = .ok (.ifCond .ne 13, 3) := by decide +kernel
theorem dX11_keep_7 : decode cX11_keep 7 = .ok (.new 49, 3) := by decide +kernel
theorem dX11_keep_10 : decode cX11_keep 10 = .ok (.dup, 1) := by decide +kernel
theorem dX11_keep_11 : decode cX11_keep 11 = .ok (.ldc 194, 2) := by decide +kernel
theorem dX11_keep_13 : decode cX11_keep 13 = .ok (.invokespecial 53, 3) := by decide +kernel
theorem dX11_keep_16 : decode cX11_keep 16 = .ok (.athrow, 1) := by decide +kernel
theorem dX11_keep_17 : decode cX11_keep 17 = .ok (.aload_n 0, 1) := by decide +kernel
theorem dX11_keep_18 : decode cX11_keep 18 = .ok (.getfield 19, 3) := by decide +kernel
theorem dX11_keep_21 : decode cX11_keep 21 = .ok (.iload_n 1, 1) := by decide +kernel
theorem dX11_keep_22 : decode cX11_keep 22 = .ok (.aload_n 0, 1) := by decide +kernel
theorem dX11_keep_23 : decode cX11_keep 23 = .ok (.getfield 45, 3) := by decide +kernel
theorem dX11_keep_26 : decode cX11_keep 26 = .ok (.invokevirtual 196, 3) := by decide +kernel
theorem dX11_keep_29 : decode cX11_keep 29 = .ok (.ifCond .ne 13, 3) := by decide +kernel
theorem dX11_keep_42 : decode cX11_keep 42 = .ok (.aload_n 0, 1) := by decide +kernel
theorem dX11_keep_43 : decode cX11_keep 43 = .ok (.getfield 45, 3) := by decide +kernel
theorem dX11_keep_46 : decode cX11_keep 46 = .ok (.getfield 202, 3) := by decide +kernel
theorem dX11_keep_49 : decode cX11_keep 49 = .ok (.ireturn, 1) := by decide +kernel
theorem dX11_result_0 : decode cX11_result 0 = .ok (.iload_n 1, 1) := by decide +kernel
theorem dX11_result_1 : decode cX11_result 1 = .ok (.tableswitch 71 0 2 #[27, 35, 43], 27) := by decide +kernel
theorem dX11_result_28 : decode cX11_result 28 = .ok (.aload_n 0, 1) := by decide +kernel
theorem dX11_result_29 : decode cX11_result 29 = .ok (.getfield 45, 3) := by decide +kernel
theorem dX11_result_32 : decode cX11_result 32 = .ok (.getfield 202, 3) := by decide +kernel
theorem dX11_result_35 : decode cX11_result 35 = .ok (.ireturn, 1) := by decide +kernel
theorem dX11_result_36 : decode cX11_result 36 = .ok (.aload_n 0, 1) := by decide +kernel
theorem dX11_result_37 : decode cX11_result 37 = .ok (.getfield 45, 3) := by decide +kernel
theorem dX11_result_40 : decode cX11_result 40 = .ok (.getfield 205, 3) := by decide +kernel
theorem dX11_result_43 : decode cX11_result 43 = .ok (.ireturn, 1) := by decide +kernel
theorem dX11_result_44 : decode cX11_result 44 = .ok (.aload_n 0, 1) := by decide +kernel
theorem dX11_result_45 : decode cX11_result 45 = .ok (.getfield 45, 3) := by decide +kernel
theorem dX11_result_48 : decode cX11_result 48 = .ok (.getfield 202, 3) := by decide +kernel
theorem dX11_result_51 : decode cX11_result 51 = .ok (.iconst 3, 1) := by decide +kernel
theorem dX11_result_52 : decode cX11_result 52 = .ok (.if_icmp .ne 18, 3) := by decide +kernel
theorem dX11_result_70 : decode cX11_result 70 = .ok (.iconst 0, 1) := by decide +kernel
theorem dX11_result_71 : decode cX11_result 71 = .ok (.ireturn, 1) := by decide +kernel
theorem dX11_result_72 : decode cX11_result 72 = .ok (.iconst (-1), 1) := by decide +kernel
theorem dX11_result_73 : decode cX11_result 73 = .ok (.ireturn, 1) := by decide +kernel
theorem dX11_text_0 : decode cX11_text 0 = .ok (.iload_n 1, 1) := by decide +kernel
theorem dX11_text_1 : decode cX11_text 1 = .ok (.ifCond .lt 31, 3) := by decide +kernel
theorem dX11_text_4 : decode cX11_text 4 = .ok (.iload_n 1, 1) := by decide +kernel
theorem dX11_text_5 : decode cX11_text 5 = .ok (.aload_n 0, 1) := by decide +kernel
theorem dX11_text_6 : decode cX11_text 6 = .ok (.getfield 45, 3) := by decide +kernel
theorem dX11_text_9 : decode cX11_text 9 = .ok (.getfield 214, 3) := by decide +kernel
theorem dX11_text_12 : decode cX11_text 12 = .ok (.invokevirtual 218, 3) := by decide +kernel
theorem dX11_text_15 : decode cX11_text 15 = .ok (.if_icmp .ge 17, 3) := by decide +kernel
theorem dX11_text_32 : decode cX11_text 32 = .ok (.iconst (-1), 1) := by decide +kernel
theorem dX11_text_33 : decode cX11_text 33 = .ok (.ireturn, 1) := by decide +kernel
theorem dX11_put_0 : decode cX11_put 0 = .ok (.aload_n 0, 1) := by decide +kernel
theorem dX11_put_1 : decode cX11_put 1 = .ok (.iload_n 1, 1) := by decide +kernel
theorem dX11_put_2 : decode cX11_put 2 = .ok (.invokevirtual 177, 3) := by decide +kernel
theorem dX11_put_5 : decode cX11_put 5 = .ok (.astore_n 3, 1) := by decide +kernel
theorem dX11_put_6 : decode cX11_put 6 = .ok (.aload_n 3, 1) := by decide +kernel
theorem dX11_put_7 : decode cX11_put 7 = .ok (.ifnonnull 13, 3) := by decide +kernel
theorem dX11_put_10 : decode cX11_put 10 = .ok (.new 49, 3) := by decide +kernel
theorem dX11_put_13 : decode cX11_put 13 = .ok (.dup, 1) := by decide +kernel
theorem dX11_put_14 : decode cX11_put 14 = .ok (.ldc 227, 2) := by decide +kernel
theorem dX11_put_16 : decode cX11_put 16 = .ok (.invokespecial 53, 3) := by decide +kernel
theorem dX11_put_19 : decode cX11_put 19 = .ok (.athrow, 1) := by decide +kernel
theorem dX11_about_0 : decode cX11_about 0 = .ok (.iload_n 1, 1) := by decide +kernel
theorem dX11_about_1 : decode cX11_about 1 = .ok (.tableswitch 69 0 4 #[35, 46, 51, 56, 61], 35) := by decide +kernel
theorem dX11_about_36 : decode cX11_about 36 = .ok (.aload_n 0, 1) := by decide +kernel
theorem dX11_about_37 : decode cX11_about 37 = .ok (.getfield 10, 3) := by decide +kernel
theorem dX11_about_40 : decode cX11_about 40 = .ok (.getfield 56, 3) := by decide +kernel
theorem dX11_about_43 : decode cX11_about 43 = .ok (.getfield 60, 3) := by decide +kernel
theorem dX11_about_46 : decode cX11_about 46 = .ok (.ireturn, 1) := by decide +kernel
theorem dX11_about_47 : decode cX11_about 47 = .ok (.aload_n 0, 1) := by decide +kernel
theorem dX11_about_48 : decode cX11_about 48 = .ok (.getfield 75, 3) := by decide +kernel
theorem dX11_about_51 : decode cX11_about 51 = .ok (.ireturn, 1) := by decide +kernel
theorem dX11_about_52 : decode cX11_about 52 = .ok (.aload_n 0, 1) := by decide +kernel
theorem dX11_about_53 : decode cX11_about 53 = .ok (.getfield 96, 3) := by decide +kernel
theorem dX11_about_56 : decode cX11_about 56 = .ok (.ireturn, 1) := by decide +kernel
theorem dX11_about_57 : decode cX11_about 57 = .ok (.aload_n 0, 1) := by decide +kernel
theorem dX11_about_58 : decode cX11_about 58 = .ok (.getfield 120, 3) := by decide +kernel
theorem dX11_about_61 : decode cX11_about 61 = .ok (.ireturn, 1) := by decide +kernel
theorem dX11_about_62 : decode cX11_about 62 = .ok (.aload_n 0, 1) := by decide +kernel
theorem dX11_about_63 : decode cX11_about 63 = .ok (.getfield 19, 3) := by decide +kernel
theorem dX11_about_66 : decode cX11_about 66 = .ok (.getfield 233, 3) := by decide +kernel
theorem dX11_about_69 : decode cX11_about 69 = .ok (.ireturn, 1) := by decide +kernel
theorem dX11_about_70 : decode cX11_about 70 = .ok (.iconst (-1), 1) := by decide +kernel
theorem dX11_about_71 : decode cX11_about 71 = .ok (.ireturn, 1) := by decide +kernel
theorem dX11_familyAt_0 : decode cX11_familyAt 0 = .ok (.iload_n 1, 1) := by decide +kernel
theorem dX11_familyAt_1 : decode cX11_familyAt 1 = .ok (.ifCond .lt 29, 3) := by decide +kernel
theorem dX11_familyAt_4 : decode cX11_familyAt 4 = .ok (.iload_n 1, 1) := by decide +kernel
theorem dX11_familyAt_5 : decode cX11_familyAt 5 = .ok (.aload_n 0, 1) := by decide +kernel
theorem dX11_familyAt_6 : decode cX11_familyAt 6 = .ok (.getfield 96, 3) := by decide +kernel
theorem dX11_familyAt_9 : decode cX11_familyAt 9 = .ok (.if_icmp .ge 21, 3) := by decide +kernel
theorem dX11_familyAt_30 : decode cX11_familyAt 30 = .ok (.aconst_null, 1) := by decide +kernel
theorem dX11_familyAt_31 : decode cX11_familyAt 31 = .ok (.areturn, 1) := by decide +kernel
theorem dX11_objectAt_0 : decode cX11_objectAt 0 = .ok (.iload_n 1, 1) := by decide +kernel
theorem dX11_objectAt_1 : decode cX11_objectAt 1 = .ok (.ifCond .lt 29, 3) := by decide +kernel
theorem dX11_objectAt_4 : decode cX11_objectAt 4 = .ok (.iload_n 1, 1) := by decide +kernel
theorem dX11_objectAt_5 : decode cX11_objectAt 5 = .ok (.aload_n 0, 1) := by decide +kernel
theorem dX11_objectAt_6 : decode cX11_objectAt 6 = .ok (.getfield 120, 3) := by decide +kernel
theorem dX11_objectAt_9 : decode cX11_objectAt 9 = .ok (.if_icmp .ge 21, 3) := by decide +kernel
theorem dX11_objectAt_30 : decode cX11_objectAt 30 = .ok (.aconst_null, 1) := by decide +kernel
theorem dX11_objectAt_31 : decode cX11_objectAt 31 = .ok (.areturn, 1) := by decide +kernel
theorem dX11_isName_0 : decode cX11_isName 0 = .ok (.iload_n 0, 1) := by decide +kernel
theorem dX11_isName_1 : decode cX11_isName 1 = .ok (.iconst 1, 1) := by decide +kernel
theorem dX11_isName_2 : decode cX11_isName 2 = .ok (.if_icmp .lt 13, 3) := by decide +kernel
theorem dX11_isName_5 : decode cX11_isName 5 = .ok (.iload_n 0, 1) := by decide +kernel
theorem dX11_isName_6 : decode cX11_isName 6 = .ok (.ldc 236, 2) := by decide +kernel
theorem dX11_isName_8 : decode cX11_isName 8 = .ok (.if_icmp .gt 7, 3) := by decide +kernel
theorem dX11_isName_11 : decode cX11_isName 11 = .ok (.iconst 1, 1) := by decide +kernel
theorem dX11_isName_12 : decode cX11_isName 12 = .ok (.goto 4, 3) := by decide +kernel
theorem dX11_isName_15 : decode cX11_isName 15 = .ok (.iconst 0, 1) := by decide +kernel
theorem dX11_isName_16 : decode cX11_isName 16 = .ok (.ireturn, 1) := by decide +kernel
theorem dX12_init_0 : decode cX12_init 0 = .ok (.aload_n 0, 1) := by decide +kernel
theorem dX12_init_1 : decode cX12_init 1 = .ok (.invokespecial 1, 3) := by decide +kernel
theorem dX12_init_4 : decode cX12_init 4 = .ok (.aload_n 0, 1) := by decide +kernel
theorem dX12_init_5 : decode cX12_init 5 = .ok (.bipush 40, 2) := by decide +kernel
theorem dX12_init_7 : decode cX12_init 7 = .ok (.newarray .int, 2) := by decide +kernel
theorem dX12_init_9 : decode cX12_init 9 = .ok (.putfield 7, 3) := by decide +kernel
theorem dX12_init_12 : decode cX12_init 12 = .ok (.aload_n 0, 1) := by decide +kernel
theorem dX12_init_13 : decode cX12_init 13 = .ok (.bipush 42, 2) := by decide +kernel
theorem dX12_init_15 : decode cX12_init 15 = .ok (.newarray .int, 2) := by decide +kernel
theorem dX12_init_17 : decode cX12_init 17 = .ok (.putfield 13, 3) := by decide +kernel
theorem dX12_init_20 : decode cX12_init 20 = .ok (.aload_n 0, 1) := by decide +kernel
theorem dX12_init_21 : decode cX12_init 21 = .ok (.bipush 42, 2) := by decide +kernel
theorem dX12_init_23 : decode cX12_init 23 = .ok (.newarray .int, 2) := by decide +kernel
theorem dX12_init_25 : decode cX12_init 25 = .ok (.putfield 16, 3) := by decide +kernel
theorem dX12_init_28 : decode cX12_init 28 = .ok (.aload_n 0, 1) := by decide +kernel
theorem dX12_init_29 : decode cX12_init 29 = .ok (.bipush 42, 2) := by decide +kernel
theorem dX12_init_31 : decode cX12_init 31 = .ok (.newarray .long, 2) := by decide +kernel
theorem dX12_init_33 : decode cX12_init 33 = .ok (.putfield 19, 3) := by decide +kernel
theorem dX12_init_36 : decode cX12_init 36 = .ok (.aload_n 0, 1) := by decide +kernel
theorem dX12_init_37 : decode cX12_init 37 = .ok (.bipush 42, 2) := by decide +kernel
theorem dX12_init_39 : decode cX12_init 39 = .ok (.newarray .int, 2) := by decide +kernel
theorem dX12_init_41 : decode cX12_init 41 = .ok (.putfield 23, 3) := by decide +kernel
theorem dX12_init_44 : decode cX12_init 44 = .ok (.aload_n 0, 1) := by decide +kernel
theorem dX12_init_45 : decode cX12_init 45 = .ok (.sipush 3600, 3) := by decide +kernel
theorem dX12_init_48 : decode cX12_init 48 = .ok (.newarray .int, 2) := by decide +kernel
theorem dX12_init_50 : decode cX12_init 50 = .ok (.putfield 26, 3) := by decide +kernel
theorem dX12_init_53 : decode cX12_init 53 = .ok (.aload_n 0, 1) := by decide +kernel
theorem dX12_init_54 : decode cX12_init 54 = .ok (.sipush 3600, 3) := by decide +kernel
theorem dX12_init_57 : decode cX12_init 57 = .ok (.newarray .long, 2) := by decide +kernel
theorem dX12_init_59 : decode cX12_init 59 = .ok (.putfield 29, 3) := by decide +kernel
theorem dX12_init_62 : decode cX12_init 62 = .ok (.aload_n 0, 1) := by decide +kernel
theorem dX12_init_63 : decode cX12_init 63 = .ok (.bipush 40, 2) := by decide +kernel
theorem dX12_init_65 : decode cX12_init 65 = .ok (.newarray .int, 2) := by decide +kernel
theorem dX12_init_67 : decode cX12_init 67 = .ok (.putfield 32, 3) := by decide +kernel
theorem dX12_init_70 : decode cX12_init 70 = .ok (.aload_n 0, 1) := by decide +kernel
theorem dX12_init_71 : decode cX12_init 71 = .ok (.bipush 8, 2) := by decide +kernel
theorem dX12_init_73 : decode cX12_init 73 = .ok (.newarray .int, 2) := by decide +kernel
theorem dX12_init_75 : decode cX12_init 75 = .ok (.putfield 35, 3) := by decide +kernel
theorem dX12_init_78 : decode cX12_init 78 = .ok (.aload_n 0, 1) := by decide +kernel
theorem dX12_init_79 : decode cX12_init 79 = .ok (.bipush 8, 2) := by decide +kernel
theorem dX12_init_81 : decode cX12_init 81 = .ok (.newarray .int, 2) := by decide +kernel
theorem dX12_init_83 : decode cX12_init 83 = .ok (.putfield 38, 3) := by decide +kernel
theorem dX12_init_86 : decode cX12_init 86 = .ok (.aload_n 0, 1) := by decide +kernel
theorem dX12_init_87 : decode cX12_init 87 = .ok (.bipush 8, 2) := by decide +kernel
theorem dX12_init_89 : decode cX12_init 89 = .ok (.newarray .int, 2) := by decide +kernel
theorem dX12_init_91 : decode cX12_init 91 = .ok (.putfield 41, 3) := by decide +kernel
theorem dX12_init_94 : decode cX12_init 94 = .ok (.aload_n 0, 1) := by decide +kernel
theorem dX12_init_95 : decode cX12_init 95 = .ok (.bipush 8, 2) := by decide +kernel
theorem dX12_init_97 : decode cX12_init 97 = .ok (.newarray .int, 2) := by decide +kernel
theorem dX12_init_99 : decode cX12_init 99 = .ok (.putfield 44, 3) := by decide +kernel
theorem dX12_init_102 : decode cX12_init 102 = .ok (.aload_n 0, 1) := by decide +kernel
theorem dX12_init_103 : decode cX12_init 103 = .ok (.bipush 8, 2) := by decide +kernel
theorem dX12_init_105 : decode cX12_init 105 = .ok (.newarray .int, 2) := by decide +kernel
theorem dX12_init_107 : decode cX12_init 107 = .ok (.putfield 47, 3) := by decide +kernel
theorem dX12_init_110 : decode cX12_init 110 = .ok (.aload_n 0, 1) := by decide +kernel
theorem dX12_init_111 : decode cX12_init 111 = .ok (.bipush 8, 2) := by decide +kernel
theorem dX12_init_113 : decode cX12_init 113 = .ok (.newarray .int, 2) := by decide +kernel
theorem dX12_init_115 : decode cX12_init 115 = .ok (.putfield 50, 3) := by decide +kernel
theorem dX12_init_118 : decode cX12_init 118 = .ok (.aload_n 0, 1) := by decide +kernel
theorem dX12_init_119 : decode cX12_init 119 = .ok (.bipush 8, 2) := by decide +kernel
theorem dX12_init_121 : decode cX12_init 121 = .ok (.newarray .boolean, 2) := by decide +kernel
theorem dX12_init_123 : decode cX12_init 123 = .ok (.putfield 53, 3) := by decide +kernel
theorem dX12_init_126 : decode cX12_init 126 = .ok (.aload_n 0, 1) := by decide +kernel
theorem dX12_init_127 : decode cX12_init 127 = .ok (.bipush 8, 2) := by decide +kernel
theorem dX12_init_129 : decode cX12_init 129 = .ok (.newarray .boolean, 2) := by decide +kernel
theorem dX12_init_131 : decode cX12_init 131 = .ok (.putfield 57, 3) := by decide +kernel
theorem dX12_init_134 : decode cX12_init 134 = .ok (.aload_n 0, 1) := by decide +kernel
theorem dX12_init_135 : decode cX12_init 135 = .ok (.bipush 8, 2) := by decide +kernel
theorem dX12_init_137 : decode cX12_init 137 = .ok (.newarray .boolean, 2) := by decide +kernel
theorem dX12_init_139 : decode cX12_init 139 = .ok (.putfield 60, 3) := by decide +kernel
theorem dX12_init_142 : decode cX12_init 142 = .ok (.aload_n 0, 1) := by decide +kernel
theorem dX12_init_143 : decode cX12_init 143 = .ok (.bipush 48, 2) := by decide +kernel
theorem dX12_init_145 : decode cX12_init 145 = .ok (.newarray .int, 2) := by decide +kernel
theorem dX12_init_147 : decode cX12_init 147 = .ok (.putfield 63, 3) := by decide +kernel
theorem dX12_init_150 : decode cX12_init 150 = .ok (.aload_n 0, 1) := by decide +kernel
theorem dX12_init_151 : decode cX12_init 151 = .ok (.bipush 48, 2) := by decide +kernel
theorem dX12_init_153 : decode cX12_init 153 = .ok (.newarray .int, 2) := by decide +kernel
theorem dX12_init_155 : decode cX12_init 155 = .ok (.putfield 66, 3) := by decide +kernel
theorem dX12_init_158 : decode cX12_init 158 = .ok (.aload_n 0, 1) := by decide +kernel
theorem dX12_init_159 : decode cX12_init 159 = .ok (.bipush 48, 2) := by decide +kernel
theorem dX12_init_161 : decode cX12_init 161 = .ok (.newarray .int, 2) := by decide +kernel
theorem dX12_init_163 : decode cX12_init 163 = .ok (.putfield 69, 3) := by decide +kernel
theorem dX12_init_166 : decode cX12_init 166 = .ok (.aload_n 0, 1) := by decide +kernel
theorem dX12_init_167 : decode cX12_init 167 = .ok (.iconst 5, 1) := by decide +kernel
theorem dX12_init_168 : decode cX12_init 168 = .ok (.newarray .int, 2) := by decide +kernel
theorem dX12_init_170 : decode cX12_init 170 = .ok (.putfield 72, 3) := by decide +kernel
theorem dX12_init_173 : decode cX12_init 173 = .ok (.aload_n 0, 1) := by decide +kernel
theorem dX12_init_174 : decode cX12_init 174 = .ok (.iconst 5, 1) := by decide +kernel
theorem dX12_init_175 : decode cX12_init 175 = .ok (.newarray .int, 2) := by decide +kernel
theorem dX12_init_177 : decode cX12_init 177 = .ok (.putfield 75, 3) := by decide +kernel
theorem dX12_init_180 : decode cX12_init 180 = .ok (.aload_n 0, 1) := by decide +kernel
theorem dX12_init_181 : decode cX12_init 181 = .ok (.bipush 30, 2) := by decide +kernel
theorem dX12_init_183 : decode cX12_init 183 = .ok (.newarray .int, 2) := by decide +kernel
theorem dX12_init_185 : decode cX12_init 185 = .ok (.putfield 78, 3) := by decide +kernel
theorem dX12_init_188 : decode cX12_init 188 = .ok (.aload_n 0, 1) := by decide +kernel
theorem dX12_init_189 : decode cX12_init 189 = .ok (.bipush 30, 2) := by decide +kernel
theorem dX12_init_191 : decode cX12_init 191 = .ok (.newarray .int, 2) := by decide +kernel
theorem dX12_init_193 : decode cX12_init 193 = .ok (.putfield 81, 3) := by decide +kernel
theorem dX12_init_196 : decode cX12_init 196 = .ok (.aload_n 0, 1) := by decide +kernel
theorem dX12_init_197 : decode cX12_init 197 = .ok (.iconst 5, 1) := by decide +kernel
theorem dX12_init_198 : decode cX12_init 198 = .ok (.newarray .int, 2) := by decide +kernel
theorem dX12_init_200 : decode cX12_init 200 = .ok (.putfield 84, 3) := by decide +kernel
theorem dX12_init_203 : decode cX12_init 203 = .ok (.aload_n 0, 1) := by decide +kernel
theorem dX12_init_204 : decode cX12_init 204 = .ok (.bipush 30, 2) := by decide +kernel
theorem dX12_init_206 : decode cX12_init 206 = .ok (.newarray .int, 2) := by decide +kernel
theorem dX12_init_208 : decode cX12_init 208 = .ok (.putfield 87, 3) := by decide +kernel
theorem dX12_init_211 : decode cX12_init 211 = .ok (.aload_n 0, 1) := by decide +kernel
theorem dX12_init_212 : decode cX12_init 212 = .ok (.bipush 30, 2) := by decide +kernel
theorem dX12_init_214 : decode cX12_init 214 = .ok (.newarray .int, 2) := by decide +kernel
theorem dX12_init_216 : decode cX12_init 216 = .ok (.putfield 90, 3) := by decide +kernel
theorem dX12_init_219 : decode cX12_init 219 = .ok (.aload_n 0, 1) := by decide +kernel
theorem dX12_init_220 : decode cX12_init 220 = .ok (.bipush 30, 2) := by decide +kernel
theorem dX12_init_222 : decode cX12_init 222 = .ok (.newarray .int, 2) := by decide +kernel
theorem dX12_init_224 : decode cX12_init 224 = .ok (.putfield 93, 3) := by decide +kernel
theorem dX12_init_227 : decode cX12_init 227 = .ok (.aload_n 0, 1) := by decide +kernel
theorem dX12_init_228 : decode cX12_init 228 = .ok (.bipush 30, 2) := by decide +kernel
theorem dX12_init_230 : decode cX12_init 230 = .ok (.newarray .int, 2) := by decide +kernel
theorem dX12_init_232 : decode cX12_init 232 = .ok (.putfield 96, 3) := by decide +kernel
theorem dX12_init_235 : decode cX12_init 235 = .ok (.aload_n 0, 1) := by decide +kernel
theorem dX12_init_236 : decode cX12_init 236 = .ok (.bipush 30, 2) := by decide +kernel
theorem dX12_init_238 : decode cX12_init 238 = .ok (.newarray .int, 2) := by decide +kernel
theorem dX12_init_240 : decode cX12_init 240 = .ok (.putfield 99, 3) := by decide +kernel
theorem dX12_init_243 : decode cX12_init 243 = .ok (.aload_n 0, 1) := by decide +kernel
theorem dX12_init_244 : decode cX12_init 244 = .ok (.bipush 65, 2) := by decide +kernel
theorem dX12_init_246 : decode cX12_init 246 = .ok (.newarray .boolean, 2) := by decide +kernel
theorem dX12_init_248 : decode cX12_init 248 = .ok (.putfield 102, 3) := by decide +kernel
theorem dX12_init_251 : decode cX12_init 251 = .ok (.aload_n 0, 1) := by decide +kernel
theorem dX12_init_252 : decode cX12_init 252 = .ok (.bipush 30, 2) := by decide +kernel
theorem dX12_init_254 : decode cX12_init 254 = .ok (.newarray .int, 2) := by decide +kernel
theorem dX12_init_256 : decode cX12_init 256 = .ok (.putfield 105, 3) := by decide +kernel
theorem dX12_init_259 : decode cX12_init 259 = .ok (.aload_n 0, 1) := by decide +kernel
theorem dX12_init_260 : decode cX12_init 260 = .ok (.bipush 12, 2) := by decide +kernel
theorem dX12_init_262 : decode cX12_init 262 = .ok (.newarray .int, 2) := by decide +kernel
theorem dX12_init_264 : decode cX12_init 264 = .ok (.putfield 108, 3) := by decide +kernel
theorem dX12_init_267 : decode cX12_init 267 = .ok (.aload_n 0, 1) := by decide +kernel
theorem dX12_init_268 : decode cX12_init 268 = .ok (.sipush 980, 3) := by decide +kernel
theorem dX12_init_271 : decode cX12_init 271 = .ok (.newarray .int, 2) := by decide +kernel
theorem dX12_init_273 : decode cX12_init 273 = .ok (.putfield 111, 3) := by decide +kernel
theorem dX12_init_276 : decode cX12_init 276 = .ok (.aload_n 0, 1) := by decide +kernel
theorem dX12_init_277 : decode cX12_init 277 = .ok (.sipush 980, 3) := by decide +kernel
theorem dX12_init_280 : decode cX12_init 280 = .ok (.newarray .long, 2) := by decide +kernel
theorem dX12_init_282 : decode cX12_init 282 = .ok (.putfield 114, 3) := by decide +kernel
theorem dX12_init_285 : decode cX12_init 285 = .ok (.aload_n 0, 1) := by decide +kernel
theorem dX12_init_286 : decode cX12_init 286 = .ok (.sipush 980, 3) := by decide +kernel
theorem dX12_init_289 : decode cX12_init 289 = .ok (.newarray .long, 2) := by decide +kernel
theorem dX12_init_291 : decode cX12_init 291 = .ok (.putfield 117, 3) := by decide +kernel
theorem dX12_init_294 : decode cX12_init 294 = .ok (.aload_n 0, 1) := by decide +kernel
theorem dX12_init_295 : decode cX12_init 295 = .ok (.sipush 980, 3) := by decide +kernel
theorem dX12_init_298 : decode cX12_init 298 = .ok (.newarray .double, 2) := by decide +kernel
theorem dX12_init_300 : decode cX12_init 300 = .ok (.putfield 120, 3) := by decide +kernel
theorem dX12_init_303 : decode cX12_init 303 = .ok (.aload_n 0, 1) := by decide +kernel
theorem dX12_init_304 : decode cX12_init 304 = .ok (.bipush 48, 2) := by decide +kernel
theorem dX12_init_306 : decode cX12_init 306 = .ok (.newarray .int, 2) := by decide +kernel
theorem dX12_init_308 : decode cX12_init 308 = .ok (.putfield 124, 3) := by decide +kernel
theorem dX12_init_311 : decode cX12_init 311 = .ok (.return_, 1) := by decide +kernel
theorem dX12_thrown_0 : decode cX12_thrown 0 = .ok (.aload_n 0, 1) := by decide +kernel
theorem dX12_thrown_1 : decode cX12_thrown 1 = .ok (.getfield 127, 3) := by decide +kernel
theorem dX12_thrown_4 : decode cX12_thrown 4 = .ok (.ireturn, 1) := by decide +kernel
theorem dX12_letter_0 : decode cX12_letter 0 = .ok (.aload_n 0, 1) := by decide +kernel
theorem dX12_letter_1 : decode cX12_letter 1 = .ok (.iload_n 1, 1) := by decide +kernel
theorem dX12_letter_2 : decode cX12_letter 2 = .ok (.bipush 32, 2) := by decide +kernel
theorem dX12_letter_4 : decode cX12_letter 4 = .ok (.if_icmp .lt 9, 3) := by decide +kernel
theorem dX12_letter_7 : decode cX12_letter 7 = .ok (.iload_n 1, 1) := by decide +kernel
theorem dX12_letter_8 : decode cX12_letter 8 = .ok (.bipush 126, 2) := by decide +kernel
theorem dX12_letter_10 : decode cX12_letter 10 = .ok (.if_icmp .le 7, 3) := by decide +kernel
theorem dX12_letter_13 : decode cX12_letter 13 = .ok (.iconst 1, 1) := by decide +kernel
theorem dX12_letter_14 : decode cX12_letter 14 = .ok (.goto 17, 3) := by decide +kernel
theorem dX12_letter_17 : decode cX12_letter 17 = .ok (.aload_n 0, 1) := by decide +kernel
theorem dX12_letter_18 : decode cX12_letter 18 = .ok (.getfield 131, 3) := by decide +kernel
theorem dX12_letter_21 : decode cX12_letter 21 = .ok (.bipush 40, 2) := by decide +kernel
theorem dX12_letter_23 : decode cX12_letter 23 = .ok (.if_icmp .ne 7, 3) := by decide +kernel
theorem dX12_letter_30 : decode cX12_letter 30 = .ok (.iconst 0, 1) := by decide +kernel
theorem dX12_letter_31 : decode cX12_letter 31 = .ok (.putfield 127, 3) := by decide +kernel
theorem dX12_letter_34 : decode cX12_letter 34 = .ok (.aload_n 0, 1) := by decide +kernel
theorem dX12_letter_35 : decode cX12_letter 35 = .ok (.getfield 127, 3) := by decide +kernel
theorem dX12_letter_38 : decode cX12_letter 38 = .ok (.ifCond .ne 23, 3) := by decide +kernel
theorem dX12_letter_41 : decode cX12_letter 41 = .ok (.aload_n 0, 1) := by decide +kernel
theorem dX12_letter_42 : decode cX12_letter 42 = .ok (.getfield 7, 3) := by decide +kernel
theorem dX12_letter_45 : decode cX12_letter 45 = .ok (.aload_n 0, 1) := by decide +kernel
theorem dX12_letter_46 : decode cX12_letter 46 = .ok (.getfield 131, 3) := by decide +kernel
theorem dX12_letter_49 : decode cX12_letter 49 = .ok (.iload_n 1, 1) := by decide +kernel
theorem dX12_letter_50 : decode cX12_letter 50 = .ok (.iastore, 1) := by decide +kernel
theorem dX12_letter_51 : decode cX12_letter 51 = .ok (.aload_n 0, 1) := by decide +kernel
theorem dX12_letter_52 : decode cX12_letter 52 = .ok (.dup, 1) := by decide +kernel
theorem dX12_letter_53 : decode cX12_letter 53 = .ok (.getfield 131, 3) := by decide +kernel
theorem dX12_letter_56 : decode cX12_letter 56 = .ok (.iconst 1, 1) := by decide +kernel
theorem dX12_letter_57 : decode cX12_letter 57 = .ok (.iadd, 1) := by decide +kernel
theorem dX12_letter_58 : decode cX12_letter 58 = .ok (.putfield 131, 3) := by decide +kernel
theorem dX12_letter_61 : decode cX12_letter 61 = .ok (.aload_n 0, 1) := by decide +kernel
theorem dX12_letter_62 : decode cX12_letter 62 = .ok (.getfield 131, 3) := by decide +kernel
theorem dX12_letter_65 : decode cX12_letter 65 = .ok (.ireturn, 1) := by decide +kernel
theorem dX12_wrong_0 : decode cX12_wrong 0 = .ok (.aload_n 0, 1) := by decide +kernel
theorem dX12_wrong_1 : decode cX12_wrong 1 = .ok (.getfield 138, 3) := by decide +kernel
theorem dX12_wrong_4 : decode cX12_wrong 4 = .ok (.ifCond .ne 13, 3) := by decide +kernel
theorem dX12_wrong_7 : decode cX12_wrong 7 = .ok (.aload_n 0, 1) := by decide +kernel
theorem dX12_wrong_8 : decode cX12_wrong 8 = .ok (.iload_n 1, 1) := by decide +kernel
theorem dX12_wrong_9 : decode cX12_wrong 9 = .ok (.putfield 138, 3) := by decide +kernel
theorem dX12_wrong_12 : decode cX12_wrong 12 = .ok (.aload_n 0, 1) := by decide +kernel
theorem dX12_wrong_13 : decode cX12_wrong 13 = .ok (.iload_n 2, 1) := by decide +kernel
theorem dX12_wrong_14 : decode cX12_wrong 14 = .ok (.putfield 141, 3) := by decide +kernel
theorem dX12_wrong_17 : decode cX12_wrong 17 = .ok (.return_, 1) := by decide +kernel
theorem dX12_add_0 : decode cX12_add 0 = .ok (.aload_n 0, 1) := by decide +kernel
theorem dX12_add_1 : decode cX12_add 1 = .ok (.getfield 13, 3) := by decide +kernel
theorem dX12_add_4 : decode cX12_add 4 = .ok (.aload_n 0, 1) := by decide +kernel
theorem dX12_add_5 : decode cX12_add 5 = .ok (.getfield 144, 3) := by decide +kernel
theorem dX12_add_8 : decode cX12_add 8 = .ok (.iload_n 1, 1) := by decide +kernel
theorem dX12_add_9 : decode cX12_add 9 = .ok (.iastore, 1) := by decide +kernel
theorem dX12_add_10 : decode cX12_add 10 = .ok (.aload_n 0, 1) := by decide +kernel
theorem dX12_add_11 : decode cX12_add 11 = .ok (.getfield 16, 3) := by decide +kernel
theorem dX12_add_14 : decode cX12_add 14 = .ok (.aload_n 0, 1) := by decide +kernel
theorem dX12_add_15 : decode cX12_add 15 = .ok (.getfield 144, 3) := by decide +kernel
theorem dX12_add_18 : decode cX12_add 18 = .ok (.iload_n 2, 1) := by decide +kernel
theorem dX12_add_19 : decode cX12_add 19 = .ok (.iastore, 1) := by decide +kernel
theorem dX12_add_20 : decode cX12_add 20 = .ok (.aload_n 0, 1) := by decide +kernel
theorem dX12_add_21 : decode cX12_add 21 = .ok (.getfield 19, 3) := by decide +kernel
theorem dX12_add_24 : decode cX12_add 24 = .ok (.aload_n 0, 1) := by decide +kernel
theorem dX12_add_25 : decode cX12_add 25 = .ok (.getfield 144, 3) := by decide +kernel
theorem dX12_add_28 : decode cX12_add 28 = .ok (.lload_n 3, 1) := by decide +kernel
theorem dX12_add_29 : decode cX12_add 29 = .ok (.lastore, 1) := by decide +kernel
theorem dX12_add_30 : decode cX12_add 30 = .ok (.aload_n 0, 1) := by decide +kernel
theorem dX12_add_31 : decode cX12_add 31 = .ok (.getfield 23, 3) := by decide +kernel
theorem dX12_add_34 : decode cX12_add 34 = .ok (.aload_n 0, 1) := by decide +kernel
theorem dX12_add_35 : decode cX12_add 35 = .ok (.getfield 144, 3) := by decide +kernel
theorem dX12_add_38 : decode cX12_add 38 = .ok (.iconst 0, 1) := by decide +kernel
theorem dX12_add_39 : decode cX12_add 39 = .ok (.iastore, 1) := by decide +kernel
theorem dX12_add_40 : decode cX12_add 40 = .ok (.aload_n 0, 1) := by decide +kernel
theorem dX12_add_41 : decode cX12_add 41 = .ok (.dup, 1) := by decide +kernel
theorem dX12_add_42 : decode cX12_add 42 = .ok (.getfield 144, 3) := by decide +kernel
theorem dX12_add_45 : decode cX12_add 45 = .ok (.iconst 1, 1) := by decide +kernel
theorem dX12_add_46 : decode cX12_add 46 = .ok (.iadd, 1) := by decide +kernel
theorem dX12_add_47 : decode cX12_add 47 = .ok (.putfield 144, 3) := by decide +kernel
theorem dX12_add_50 : decode cX12_add 50 = .ok (.return_, 1) := by decide +kernel
theorem dX12_cut_0 : decode cX12_cut 0 = .ok (.aload_n 0, 1) := by decide +kernel
theorem dX12_cut_1 : decode cX12_cut 1 = .ok (.iconst 0, 1) := by decide +kernel
theorem dX12_cut_2 : decode cX12_cut 2 = .ok (.putfield 144, 3) := by decide +kernel
theorem dX12_cut_5 : decode cX12_cut 5 = .ok (.iconst 0, 1) := by decide +kernel
theorem dX12_cut_6 : decode cX12_cut 6 = .ok (.istore_n 1, 1) := by decide +kernel
theorem dX12_cut_7 : decode cX12_cut 7 = .ok (.iload_n 1, 1) := by decide +kernel
theorem dX12_cut_8 : decode cX12_cut 8 = .ok (.aload_n 0, 1) := by decide +kernel
theorem dX12_cut_9 : decode cX12_cut 9 = .ok (.getfield 131, 3) := by decide +kernel
theorem dX12_cut_12 : decode cX12_cut 12 = .ok (.if_icmp .ge 85, 3) := by decide +kernel
theorem dX12_cut_97 : decode cX12_cut 97 = .ok (.aload_n 0, 1) := by decide +kernel
theorem dX12_cut_98 : decode cX12_cut 98 = .ok (.iconst 0, 1) := by decide +kernel
theorem dX12_cut_99 : decode cX12_cut 99 = .ok (.aload_n 0, 1) := by decide +kernel
theorem dX12_cut_100 : decode cX12_cut 100 = .ok (.getfield 131, 3) := by decide +kernel
theorem dX12_cut_103 : decode cX12_cut 103 = .ok (.lconst 0, 1) := by decide +kernel
theorem dX12_cut_104 : decode cX12_cut 104 = .ok (.invokevirtual 159, 3) := by decide +kernel
theorem dX12_cut_107 : decode cX12_cut 107 = .ok (.return_, 1) := by decide +kernel
theorem dX12_isSign_0 : decode cX12_isSign 0 = .ok (.aload_n 0, 1) := by decide +kernel
theorem dX12_isSign_1 : decode cX12_isSign 1 = .ok (.getfield 13, 3) := by decide +kernel
theorem dX12_isSign_4 : decode cX12_isSign 4 = .ok (.aload_n 0, 1) := by decide +kernel
theorem dX12_isSign_5 : decode cX12_isSign 5 = .ok (.getfield 190, 3) := by decide +kernel
theorem dX12_isSign_8 : decode cX12_isSign 8 = .ok (.iaload, 1) := by decide +kernel
theorem dX12_isSign_9 : decode cX12_isSign 9 = .ok (.iconst 5, 1) := by decide +kernel
theorem dX12_isSign_10 : decode cX12_isSign 10 = .ok (.if_icmp .ne 22, 3) := by decide +kernel
theorem dX12_isSign_32 : decode cX12_isSign 32 = .ok (.iconst 0, 1) := by decide +kernel
theorem dX12_isSign_33 : decode cX12_isSign 33 = .ok (.ireturn, 1) := by decide +kernel
theorem dX12_misfit_0 : decode cX12_misfit 0 = .ok (.aload_n 0, 1) := by decide +kernel
theorem dX12_misfit_1 : decode cX12_misfit 1 = .ok (.iconst 2, 1) := by decide +kernel
theorem dX12_misfit_2 : decode cX12_misfit 2 = .ok (.aload_n 0, 1) := by decide +kernel
theorem dX12_misfit_3 : decode cX12_misfit 3 = .ok (.getfield 16, 3) := by decide +kernel
theorem dX12_misfit_6 : decode cX12_misfit 6 = .ok (.aload_n 0, 1) := by decide +kernel
theorem dX12_misfit_7 : decode cX12_misfit 7 = .ok (.getfield 190, 3) := by decide +kernel
theorem dX12_misfit_10 : decode cX12_misfit 10 = .ok (.iaload, 1) := by decide +kernel
theorem dX12_misfit_11 : decode cX12_misfit 11 = .ok (.invokevirtual 155, 3) := by decide +kernel
theorem dX12_misfit_14 : decode cX12_misfit 14 = .ok (.return_, 1) := by decide +kernel
theorem dX12_open_0 : decode cX12_open 0 = .ok (.aload_n 0, 1) := by decide +kernel
theorem dX12_open_1 : decode cX12_open 1 = .ok (.getfield 199, 3) := by decide +kernel
theorem dX12_open_4 : decode cX12_open 4 = .ok (.iconst 5, 1) := by decide +kernel
theorem dX12_open_5 : decode cX12_open 5 = .ok (.if_icmp .ne 18, 3) := by decide +kernel
theorem dX12_open_23 : decode cX12_open 23 = .ok (.aload_n 0, 1) := by decide +kernel
theorem dX12_open_24 : decode cX12_open 24 = .ok (.getfield 35, 3) := by decide +kernel
theorem dX12_open_27 : decode cX12_open 27 = .ok (.aload_n 0, 1) := by decide +kernel
theorem dX12_open_28 : decode cX12_open 28 = .ok (.getfield 199, 3) := by decide +kernel
theorem dX12_open_31 : decode cX12_open 31 = .ok (.iload_n 1, 1) := by decide +kernel
theorem dX12_open_32 : decode cX12_open 32 = .ok (.iastore, 1) := by decide +kernel
theorem dX12_open_33 : decode cX12_open 33 = .ok (.aload_n 0, 1) := by decide +kernel
theorem dX12_open_34 : decode cX12_open 34 = .ok (.dup, 1) := by decide +kernel
theorem dX12_open_35 : decode cX12_open 35 = .ok (.getfield 199, 3) := by decide +kernel
theorem dX12_open_38 : decode cX12_open 38 = .ok (.iconst 1, 1) := by decide +kernel
theorem dX12_open_39 : decode cX12_open 39 = .ok (.iadd, 1) := by decide +kernel
theorem dX12_open_40 : decode cX12_open 40 = .ok (.putfield 199, 3) := by decide +kernel
theorem dX12_open_43 : decode cX12_open 43 = .ok (.aload_n 0, 1) := by decide +kernel
theorem dX12_open_44 : decode cX12_open 44 = .ok (.invokevirtual 202, 3) := by decide +kernel
theorem dX12_open_47 : decode cX12_open 47 = .ok (.return_, 1) := by decide +kernel
theorem dX12_fresh_0 : decode cX12_fresh 0 = .ok (.aload_n 0, 1) := by decide +kernel
theorem dX12_fresh_1 : decode cX12_fresh 1 = .ok (.getfield 199, 3) := by decide +kernel
theorem dX12_fresh_4 : decode cX12_fresh 4 = .ok (.iconst 1, 1) := by decide +kernel
theorem dX12_fresh_5 : decode cX12_fresh 5 = .ok (.isub, 1) := by decide +kernel
theorem dX12_fresh_6 : decode cX12_fresh 6 = .ok (.istore_n 1, 1) := by decide +kernel
theorem dX12_fresh_7 : decode cX12_fresh 7 = .ok (.aload_n 0, 1) := by decide +kernel
theorem dX12_fresh_8 : decode cX12_fresh 8 = .ok (.getfield 38, 3) := by decide +kernel
theorem dX12_fresh_11 : decode cX12_fresh 11 = .ok (.iload_n 1, 1) := by decide +kernel
theorem dX12_fresh_12 : decode cX12_fresh 12 = .ok (.aload_n 0, 1) := by decide +kernel
theorem dX12_fresh_13 : decode cX12_fresh 13 = .ok (.getfield 205, 3) := by decide +kernel
theorem dX12_fresh_16 : decode cX12_fresh 16 = .ok (.iastore, 1) := by decide +kernel
theorem dX12_fresh_17 : decode cX12_fresh 17 = .ok (.aload_n 0, 1) := by decide +kernel
theorem dX12_fresh_18 : decode cX12_fresh 18 = .ok (.getfield 41, 3) := by decide +kernel
theorem dX12_fresh_21 : decode cX12_fresh 21 = .ok (.iload_n 1, 1) := by decide +kernel
theorem dX12_fresh_22 : decode cX12_fresh 22 = .ok (.iconst 0, 1) := by decide +kernel
theorem dX12_fresh_23 : decode cX12_fresh 23 = .ok (.iastore, 1) := by decide +kernel
theorem dX12_fresh_24 : decode cX12_fresh 24 = .ok (.aload_n 0, 1) := by decide +kernel
theorem dX12_fresh_25 : decode cX12_fresh 25 = .ok (.getfield 53, 3) := by decide +kernel
theorem dX12_fresh_28 : decode cX12_fresh 28 = .ok (.iload_n 1, 1) := by decide +kernel
theorem dX12_fresh_29 : decode cX12_fresh 29 = .ok (.iconst 0, 1) := by decide +kernel
theorem dX12_fresh_30 : decode cX12_fresh 30 = .ok (.bastore, 1) := by decide +kernel
theorem dX12_fresh_31 : decode cX12_fresh 31 = .ok (.aload_n 0, 1) := by decide +kernel
theorem dX12_fresh_32 : decode cX12_fresh 32 = .ok (.getfield 57, 3) := by decide +kernel
theorem dX12_fresh_35 : decode cX12_fresh 35 = .ok (.iload_n 1, 1) := by decide +kernel
theorem dX12_fresh_36 : decode cX12_fresh 36 = .ok (.iconst 1, 1) := by decide +kernel
theorem dX12_fresh_37 : decode cX12_fresh 37 = .ok (.bastore, 1) := by decide +kernel
theorem dX12_fresh_38 : decode cX12_fresh 38 = .ok (.aload_n 0, 1) := by decide +kernel
theorem dX12_fresh_39 : decode cX12_fresh 39 = .ok (.getfield 60, 3) := by decide +kernel
theorem dX12_fresh_42 : decode cX12_fresh 42 = .ok (.iload_n 1, 1) := by decide +kernel
theorem dX12_fresh_43 : decode cX12_fresh 43 = .ok (.iconst 0, 1) := by decide +kernel
theorem dX12_fresh_44 : decode cX12_fresh 44 = .ok (.bastore, 1) := by decide +kernel
theorem dX12_fresh_45 : decode cX12_fresh 45 = .ok (.aload_n 0, 1) := by decide +kernel
theorem dX12_fresh_46 : decode cX12_fresh 46 = .ok (.iconst 1, 1) := by decide +kernel
theorem dX12_fresh_47 : decode cX12_fresh 47 = .ok (.putfield 208, 3) := by decide +kernel
theorem dX12_fresh_50 : decode cX12_fresh 50 = .ok (.return_, 1) := by decide +kernel
theorem dX12_first_0 : decode cX12_first 0 = .ok (.aload_n 0, 1) := by decide +kernel
theorem dX12_first_1 : decode cX12_first 1 = .ok (.getfield 13, 3) := by decide +kernel
theorem dX12_first_4 : decode cX12_first 4 = .ok (.aload_n 0, 1) := by decide +kernel
theorem dX12_first_5 : decode cX12_first 5 = .ok (.getfield 190, 3) := by decide +kernel
theorem dX12_first_8 : decode cX12_first 8 = .ok (.iaload, 1) := by decide +kernel
theorem dX12_first_9 : decode cX12_first 9 = .ok (.istore_n 1, 1) := by decide +kernel
theorem dX12_first_10 : decode cX12_first 10 = .ok (.aload_n 0, 1) := by decide +kernel
theorem dX12_first_11 : decode cX12_first 11 = .ok (.getfield 199, 3) := by decide +kernel
theorem dX12_first_14 : decode cX12_first 14 = .ok (.iconst 1, 1) := by decide +kernel
theorem dX12_first_15 : decode cX12_first 15 = .ok (.isub, 1) := by decide +kernel
theorem dX12_first_16 : decode cX12_first 16 = .ok (.istore_n 2, 1) := by decide +kernel
theorem dX12_first_17 : decode cX12_first 17 = .ok (.iload_n 1, 1) := by decide +kernel
theorem dX12_first_18 : decode cX12_first 18 = .ok (.iconst 1, 1) := by decide +kernel
theorem dX12_first_19 : decode cX12_first 19 = .ok (.if_icmp .eq 13, 3) := by decide +kernel
theorem dX12_first_22 : decode cX12_first 22 = .ok (.iload_n 1, 1) := by decide +kernel
theorem dX12_first_23 : decode cX12_first 23 = .ok (.iconst 4, 1) := by decide +kernel
theorem dX12_first_24 : decode cX12_first 24 = .ok (.if_icmp .eq 8, 3) := by decide +kernel
theorem dX12_first_27 : decode cX12_first 27 = .ok (.iload_n 1, 1) := by decide +kernel
theorem dX12_first_28 : decode cX12_first 28 = .ok (.iconst 2, 1) := by decide +kernel
theorem dX12_first_29 : decode cX12_first 29 = .ok (.if_icmp .ne 66, 3) := by decide +kernel
theorem dX12_first_95 : decode cX12_first 95 = .ok (.iload_n 1, 1) := by decide +kernel
theorem dX12_first_96 : decode cX12_first 96 = .ok (.iconst 3, 1) := by decide +kernel
theorem dX12_first_97 : decode cX12_first 97 = .ok (.if_icmp .ne 10, 3) := by decide +kernel
theorem dX12_first_107 : decode cX12_first 107 = .ok (.aload_n 0, 1) := by decide +kernel
theorem dX12_first_108 : decode cX12_first 108 = .ok (.getfield 41, 3) := by decide +kernel
theorem dX12_first_111 : decode cX12_first 111 = .ok (.iload_n 2, 1) := by decide +kernel
theorem dX12_first_112 : decode cX12_first 112 = .ok (.iaload, 1) := by decide +kernel
theorem dX12_first_113 : decode cX12_first 113 = .ok (.ifCond .ne 63, 3) := by decide +kernel
theorem dX12_first_116 : decode cX12_first 116 = .ok (.aload_n 0, 1) := by decide +kernel
theorem dX12_first_117 : decode cX12_first 117 = .ok (.bipush 45, 2) := by decide +kernel
theorem dX12_first_119 : decode cX12_first 119 = .ok (.invokevirtual 216, 3) := by decide +kernel
theorem dX12_first_122 : decode cX12_first 122 = .ok (.ifCond .ne 12, 3) := by decide +kernel
theorem dX12_first_125 : decode cX12_first 125 = .ok (.aload_n 0, 1) := by decide +kernel
theorem dX12_first_126 : decode cX12_first 126 = .ok (.bipush 33, 2) := by decide +kernel
theorem dX12_first_128 : decode cX12_first 128 = .ok (.invokevirtual 216, 3) := by decide +kernel
theorem dX12_first_131 : decode cX12_first 131 = .ok (.ifCond .eq 45, 3) := by decide +kernel
theorem dX12_first_176 : decode cX12_first 176 = .ok (.aload_n 0, 1) := by decide +kernel
theorem dX12_first_177 : decode cX12_first 177 = .ok (.bipush 40, 2) := by decide +kernel
theorem dX12_first_179 : decode cX12_first 179 = .ok (.invokevirtual 216, 3) := by decide +kernel
theorem dX12_first_182 : decode cX12_first 182 = .ok (.ifCond .eq 21, 3) := by decide +kernel
theorem dX12_first_203 : decode cX12_first 203 = .ok (.aload_n 0, 1) := by decide +kernel
theorem dX12_first_204 : decode cX12_first 204 = .ok (.bipush 35, 2) := by decide +kernel
theorem dX12_first_206 : decode cX12_first 206 = .ok (.invokevirtual 216, 3) := by decide +kernel
theorem dX12_first_209 : decode cX12_first 209 = .ok (.ifCond .eq 65, 3) := by decide +kernel
theorem dX12_first_274 : decode cX12_first 274 = .ok (.aload_n 0, 1) := by decide +kernel
theorem dX12_first_275 : decode cX12_first 275 = .ok (.invokevirtual 242, 3) := by decide +kernel
theorem dX12_first_278 : decode cX12_first 278 = .ok (.return_, 1) := by decide +kernel
theorem dX12_parse_0 : decode cX12_parse 0 = .ok (.aload_n 0, 1) := by decide +kernel
theorem dX12_parse_1 : decode cX12_parse 1 = .ok (.aload_n 0, 1) := by decide +kernel
theorem dX12_parse_2 : decode cX12_parse 2 = .ok (.getfield 283, 3) := by decide +kernel
theorem dX12_parse_5 : decode cX12_parse 5 = .ok (.bipush 40, 2) := by decide +kernel
theorem dX12_parse_7 : decode cX12_parse 7 = .ok (.if_icmp .ne 7, 3) := by decide +kernel
theorem dX12_parse_14 : decode cX12_parse 14 = .ok (.iconst 0, 1) := by decide +kernel
theorem dX12_parse_15 : decode cX12_parse 15 = .ok (.putfield 127, 3) := by decide +kernel
theorem dX12_parse_18 : decode cX12_parse 18 = .ok (.aload_n 0, 1) := by decide +kernel
theorem dX12_parse_19 : decode cX12_parse 19 = .ok (.getfield 127, 3) := by decide +kernel
theorem dX12_parse_22 : decode cX12_parse 22 = .ok (.ifCond .le 5, 3) := by decide +kernel
theorem dX12_parse_27 : decode cX12_parse 27 = .ok (.aload_n 0, 1) := by decide +kernel
theorem dX12_parse_28 : decode cX12_parse 28 = .ok (.iconst 0, 1) := by decide +kernel
theorem dX12_parse_29 : decode cX12_parse 29 = .ok (.putfield 138, 3) := by decide +kernel
theorem dX12_parse_32 : decode cX12_parse 32 = .ok (.aload_n 0, 1) := by decide +kernel
theorem dX12_parse_33 : decode cX12_parse 33 = .ok (.invokevirtual 286, 3) := by decide +kernel
theorem dX12_parse_36 : decode cX12_parse 36 = .ok (.aload_n 0, 1) := by decide +kernel
theorem dX12_parse_37 : decode cX12_parse 37 = .ok (.iconst 0, 1) := by decide +kernel
theorem dX12_parse_38 : decode cX12_parse 38 = .ok (.putfield 131, 3) := by decide +kernel
theorem dX12_parse_41 : decode cX12_parse 41 = .ok (.aload_n 0, 1) := by decide +kernel
theorem dX12_parse_42 : decode cX12_parse 42 = .ok (.iconst 0, 1) := by decide +kernel
theorem dX12_parse_43 : decode cX12_parse 43 = .ok (.putfield 190, 3) := by decide +kernel
theorem dX12_parse_46 : decode cX12_parse 46 = .ok (.aload_n 0, 1) := by decide +kernel
theorem dX12_parse_47 : decode cX12_parse 47 = .ok (.bipush 90, 2) := by decide +kernel
theorem dX12_parse_49 : decode cX12_parse 49 = .ok (.aload_n 0, 1) := by decide +kernel
theorem dX12_parse_50 : decode cX12_parse 50 = .ok (.getfield 283, 3) := by decide +kernel
theorem dX12_parse_53 : decode cX12_parse 53 = .ok (.imul, 1) := by decide +kernel
theorem dX12_parse_54 : decode cX12_parse 54 = .ok (.putfield 193, 3) := by decide +kernel
theorem dX12_parse_57 : decode cX12_parse 57 = .ok (.aload_n 0, 1) := by decide +kernel
theorem dX12_parse_58 : decode cX12_parse 58 = .ok (.iconst 0, 1) := by decide +kernel
theorem dX12_parse_59 : decode cX12_parse 59 = .ok (.putfield 196, 3) := by decide +kernel
theorem dX12_parse_62 : decode cX12_parse 62 = .ok (.aload_n 0, 1) := by decide +kernel
theorem dX12_parse_63 : decode cX12_parse 63 = .ok (.iconst 0, 1) := by decide +kernel
theorem dX12_parse_64 : decode cX12_parse 64 = .ok (.putfield 199, 3) := by decide +kernel
theorem dX12_parse_67 : decode cX12_parse 67 = .ok (.aload_n 0, 1) := by decide +kernel
theorem dX12_parse_68 : decode cX12_parse 68 = .ok (.iconst 0, 1) := by decide +kernel
theorem dX12_parse_69 : decode cX12_parse 69 = .ok (.putfield 205, 3) := by decide +kernel
theorem dX12_parse_72 : decode cX12_parse 72 = .ok (.aload_n 0, 1) := by decide +kernel
theorem dX12_parse_73 : decode cX12_parse 73 = .ok (.iconst 0, 1) := by decide +kernel
theorem dX12_parse_74 : decode cX12_parse 74 = .ok (.putfield 280, 3) := by decide +kernel
theorem dX12_parse_77 : decode cX12_parse 77 = .ok (.iconst 0, 1) := by decide +kernel
theorem dX12_parse_78 : decode cX12_parse 78 = .ok (.istore_n 1, 1) := by decide +kernel
theorem dX12_parse_79 : decode cX12_parse 79 = .ok (.iload_n 1, 1) := by decide +kernel
theorem dX12_parse_80 : decode cX12_parse 80 = .ok (.sipush 400, 3) := by decide +kernel
theorem dX12_parse_83 : decode cX12_parse 83 = .ok (.if_icmp .ge 56, 3) := by decide +kernel
theorem dX12_parse_86 : decode cX12_parse 86 = .ok (.aload_n 0, 1) := by decide +kernel
theorem dX12_parse_87 : decode cX12_parse 87 = .ok (.getfield 138, 3) := by decide +kernel
theorem dX12_parse_90 : decode cX12_parse 90 = .ok (.ifCond .ne 49, 3) := by decide +kernel
theorem dX12_parse_93 : decode cX12_parse 93 = .ok (.aload_n 0, 1) := by decide +kernel
theorem dX12_parse_94 : decode cX12_parse 94 = .ok (.getfield 280, 3) := by decide +kernel
theorem dX12_parse_97 : decode cX12_parse 97 = .ok (.ifCond .ne 42, 3) := by decide +kernel
theorem dX12_parse_100 : decode cX12_parse 100 = .ok (.aload_n 0, 1) := by decide +kernel
theorem dX12_parse_101 : decode cX12_parse 101 = .ok (.getfield 199, 3) := by decide +kernel
theorem dX12_parse_104 : decode cX12_parse 104 = .ok (.ifCond .ne 11, 3) := by decide +kernel
theorem dX12_parse_107 : decode cX12_parse 107 = .ok (.aload_n 0, 1) := by decide +kernel
theorem dX12_parse_108 : decode cX12_parse 108 = .ok (.iconst 0, 1) := by decide +kernel
theorem dX12_parse_109 : decode cX12_parse 109 = .ok (.invokevirtual 225, 3) := by decide +kernel
theorem dX12_parse_112 : decode cX12_parse 112 = .ok (.goto 21, 3) := by decide +kernel
theorem dX12_parse_115 : decode cX12_parse 115 = .ok (.aload_n 0, 1) := by decide +kernel
theorem dX12_parse_116 : decode cX12_parse 116 = .ok (.getfield 208, 3) := by decide +kernel
theorem dX12_parse_119 : decode cX12_parse 119 = .ok (.ifCond .eq 10, 3) := by decide +kernel
theorem dX12_parse_122 : decode cX12_parse 122 = .ok (.aload_n 0, 1) := by decide +kernel
theorem dX12_parse_123 : decode cX12_parse 123 = .ok (.invokevirtual 289, 3) := by decide +kernel
theorem dX12_parse_126 : decode cX12_parse 126 = .ok (.goto 7, 3) := by decide +kernel
theorem dX12_parse_133 : decode cX12_parse 133 = .ok (.iinc 1 1, 3) := by decide +kernel
theorem dX12_parse_136 : decode cX12_parse 136 = .ok (.goto (-57), 3) := by decide +kernel
theorem dX12_parse_139 : decode cX12_parse 139 = .ok (.aload_n 0, 1) := by decide +kernel
theorem dX12_parse_140 : decode cX12_parse 140 = .ok (.getfield 138, 3) := by decide +kernel
theorem dX12_parse_143 : decode cX12_parse 143 = .ok (.ifCond .le 17, 3) := by decide +kernel
theorem dX12_parse_146 : decode cX12_parse 146 = .ok (.sipush (-1000), 3) := by decide +kernel
theorem dX12_parse_149 : decode cX12_parse 149 = .ok (.aload_n 0, 1) := by decide +kernel
theorem dX12_parse_150 : decode cX12_parse 150 = .ok (.getfield 138, 3) := by decide +kernel
theorem dX12_parse_153 : decode cX12_parse 153 = .ok (.imul, 1) := by decide +kernel
theorem dX12_parse_154 : decode cX12_parse 154 = .ok (.aload_n 0, 1) := by decide +kernel
theorem dX12_parse_155 : decode cX12_parse 155 = .ok (.getfield 141, 3) := by decide +kernel
theorem dX12_parse_158 : decode cX12_parse 158 = .ok (.isub, 1) := by decide +kernel
theorem dX12_parse_159 : decode cX12_parse 159 = .ok (.ireturn, 1) := by decide +kernel
theorem dX12_isClass_0 : decode cX12_isClass 0 = .ok (.iload_n 1, 1) := by decide +kernel
theorem dX12_isClass_1 : decode cX12_isClass 1 = .ok (.ifCond .lt 15, 3) := by decide +kernel
theorem dX12_isClass_4 : decode cX12_isClass 4 = .ok (.iload_n 1, 1) := by decide +kernel
theorem dX12_isClass_5 : decode cX12_isClass 5 = .ok (.aload_n 0, 1) := by decide +kernel
theorem dX12_isClass_6 : decode cX12_isClass 6 = .ok (.getfield 295, 3) := by decide +kernel
theorem dX12_isClass_9 : decode cX12_isClass 9 = .ok (.if_icmp .ge 7, 3) := by decide +kernel
theorem dX12_isClass_16 : decode cX12_isClass 16 = .ok (.iconst 0, 1) := by decide +kernel
theorem dX12_isClass_17 : decode cX12_isClass 17 = .ok (.ireturn, 1) := by decide +kernel
theorem dX12_isType_0 : decode cX12_isType 0 = .ok (.iload_n 1, 1) := by decide +kernel
theorem dX12_isType_1 : decode cX12_isType 1 = .ok (.iconst 1, 1) := by decide +kernel
theorem dX12_isType_2 : decode cX12_isType 2 = .ok (.if_icmp .lt 8, 3) := by decide +kernel
theorem dX12_isType_5 : decode cX12_isType 5 = .ok (.iload_n 1, 1) := by decide +kernel
theorem dX12_isType_6 : decode cX12_isType 6 = .ok (.iconst 5, 1) := by decide +kernel
theorem dX12_isType_7 : decode cX12_isType 7 = .ok (.if_icmp .le 20, 3) := by decide +kernel
theorem dX12_isType_10 : decode cX12_isType 10 = .ok (.iload_n 1, 1) := by decide +kernel
theorem dX12_isType_11 : decode cX12_isType 11 = .ok (.bipush 8, 2) := by decide +kernel
theorem dX12_isType_13 : decode cX12_isType 13 = .ok (.if_icmp .lt 18, 3) := by decide +kernel
theorem dX12_isType_16 : decode cX12_isType 16 = .ok (.aload_n 0, 1) := by decide +kernel
theorem dX12_isType_17 : decode cX12_isType 17 = .ok (.iload_n 1, 1) := by decide +kernel
theorem dX12_isType_18 : decode cX12_isType 18 = .ok (.bipush 8, 2) := by decide +kernel
theorem dX12_isType_20 : decode cX12_isType 20 = .ok (.isub, 1) := by decide +kernel
theorem dX12_isType_21 : decode cX12_isType 21 = .ok (.invokevirtual 298, 3) := by decide +kernel
theorem dX12_isType_24 : decode cX12_isType 24 = .ok (.ifCond .eq 7, 3) := by decide +kernel
theorem dX12_isType_27 : decode cX12_isType 27 = .ok (.iconst 1, 1) := by decide +kernel
theorem dX12_isType_28 : decode cX12_isType 28 = .ok (.goto 4, 3) := by decide +kernel
theorem dX12_isType_31 : decode cX12_isType 31 = .ok (.iconst 0, 1) := by decide +kernel
theorem dX12_isType_32 : decode cX12_isType 32 = .ok (.ireturn, 1) := by decide +kernel
theorem dX12_isName_0 : decode cX12_isName 0 = .ok (.iload_n 0, 1) := by decide +kernel
theorem dX12_isName_1 : decode cX12_isName 1 = .ok (.iconst 1, 1) := by decide +kernel
theorem dX12_isName_2 : decode cX12_isName 2 = .ok (.if_icmp .lt 14, 3) := by decide +kernel
theorem dX12_isName_5 : decode cX12_isName 5 = .ok (.iload_n 0, 1) := by decide +kernel
theorem dX12_isName_6 : decode cX12_isName 6 = .ok (.ldc_w 301, 3) := by decide +kernel
theorem dX12_isName_9 : decode cX12_isName 9 = .ok (.if_icmp .gt 7, 3) := by decide +kernel
theorem dX12_isName_12 : decode cX12_isName 12 = .ok (.iconst 1, 1) := by decide +kernel
theorem dX12_isName_13 : decode cX12_isName 13 = .ok (.goto 4, 3) := by decide +kernel
theorem dX12_isName_16 : decode cX12_isName 16 = .ok (.iconst 0, 1) := by decide +kernel
theorem dX12_isName_17 : decode cX12_isName 17 = .ok (.ireturn, 1) := by decide +kernel
theorem dX12_type_0 : decode cX12_type 0 = .ok (.aload_n 0, 1) := by decide +kernel
theorem dX12_type_1 : decode cX12_type 1 = .ok (.iload_n 1, 1) := by decide +kernel
theorem dX12_type_2 : decode cX12_type 2 = .ok (.iconst (-1), 1) := by decide +kernel
theorem dX12_type_3 : decode cX12_type 3 = .ok (.if_icmp .eq 15, 3) := by decide +kernel
theorem dX12_type_6 : decode cX12_type 6 = .ok (.aload_n 0, 1) := by decide +kernel
theorem dX12_type_7 : decode cX12_type 7 = .ok (.iload_n 1, 1) := by decide +kernel
theorem dX12_type_8 : decode cX12_type 8 = .ok (.invokevirtual 298, 3) := by decide +kernel
theorem dX12_type_11 : decode cX12_type 11 = .ok (.ifCond .ne 7, 3) := by decide +kernel
theorem dX12_type_14 : decode cX12_type 14 = .ok (.iconst 1, 1) := by decide +kernel
theorem dX12_type_15 : decode cX12_type 15 = .ok (.goto 16, 3) := by decide +kernel
theorem dX12_type_18 : decode cX12_type 18 = .ok (.aload_n 0, 1) := by decide +kernel
theorem dX12_type_19 : decode cX12_type 19 = .ok (.getfield 295, 3) := by decide +kernel
theorem dX12_type_22 : decode cX12_type 22 = .ok (.iconst 5, 1) := by decide +kernel
theorem dX12_type_23 : decode cX12_type 23 = .ok (.if_icmp .ne 7, 3) := by decide +kernel
theorem dX12_type_30 : decode cX12_type 30 = .ok (.iconst 0, 1) := by decide +kernel
theorem dX12_type_31 : decode cX12_type 31 = .ok (.putfield 127, 3) := by decide +kernel
theorem dX12_type_34 : decode cX12_type 34 = .ok (.aload_n 0, 1) := by decide +kernel
theorem dX12_type_35 : decode cX12_type 35 = .ok (.getfield 127, 3) := by decide +kernel
theorem dX12_type_38 : decode cX12_type 38 = .ok (.ifCond .le 5, 3) := by decide +kernel
theorem dX12_type_41 : decode cX12_type 41 = .ok (.iconst 0, 1) := by decide +kernel
theorem dX12_type_42 : decode cX12_type 42 = .ok (.ireturn, 1) := by decide +kernel
theorem dX12_type_43 : decode cX12_type 43 = .ok (.aload_n 0, 1) := by decide +kernel
theorem dX12_type_44 : decode cX12_type 44 = .ok (.getfield 72, 3) := by decide +kernel
theorem dX12_type_47 : decode cX12_type 47 = .ok (.aload_n 0, 1) := by decide +kernel
theorem dX12_type_48 : decode cX12_type 48 = .ok (.getfield 295, 3) := by decide +kernel
theorem dX12_type_51 : decode cX12_type 51 = .ok (.iload_n 1, 1) := by decide +kernel
theorem dX12_type_52 : decode cX12_type 52 = .ok (.iastore, 1) := by decide +kernel
theorem dX12_type_53 : decode cX12_type 53 = .ok (.aload_n 0, 1) := by decide +kernel
theorem dX12_type_54 : decode cX12_type 54 = .ok (.dup, 1) := by decide +kernel
theorem dX12_type_55 : decode cX12_type 55 = .ok (.getfield 295, 3) := by decide +kernel
theorem dX12_type_58 : decode cX12_type 58 = .ok (.iconst 1, 1) := by decide +kernel
theorem dX12_type_59 : decode cX12_type 59 = .ok (.iadd, 1) := by decide +kernel
theorem dX12_type_60 : decode cX12_type 60 = .ok (.putfield 295, 3) := by decide +kernel
theorem dX12_type_63 : decode cX12_type 63 = .ok (.aload_n 0, 1) := by decide +kernel
theorem dX12_type_64 : decode cX12_type 64 = .ok (.getfield 295, 3) := by decide +kernel
theorem dX12_type_67 : decode cX12_type 67 = .ok (.iconst 1, 1) := by decide +kernel
theorem dX12_type_68 : decode cX12_type 68 = .ok (.isub, 1) := by decide +kernel
theorem dX12_type_69 : decode cX12_type 69 = .ok (.ireturn, 1) := by decide +kernel
theorem dX12_field_0 : decode cX12_field 0 = .ok (.aload_n 0, 1) := by decide +kernel
theorem dX12_field_1 : decode cX12_field 1 = .ok (.aload_n 0, 1) := by decide +kernel
theorem dX12_field_2 : decode cX12_field 2 = .ok (.iload_n 1, 1) := by decide +kernel
theorem dX12_field_3 : decode cX12_field 3 = .ok (.invokevirtual 298, 3) := by decide +kernel
theorem dX12_field_6 : decode cX12_field 6 = .ok (.ifCond .eq 18, 3) := by decide +kernel
theorem dX12_field_24 : decode cX12_field 24 = .ok (.iconst 1, 1) := by decide +kernel
theorem dX12_field_25 : decode cX12_field 25 = .ok (.goto 4, 3) := by decide +kernel
theorem dX12_field_29 : decode cX12_field 29 = .ok (.putfield 127, 3) := by decide +kernel
theorem dX12_field_32 : decode cX12_field 32 = .ok (.aload_n 0, 1) := by decide +kernel
theorem dX12_field_33 : decode cX12_field 33 = .ok (.getfield 127, 3) := by decide +kernel
theorem dX12_field_36 : decode cX12_field 36 = .ok (.ifCond .le 5, 3) := by decide +kernel
theorem dX12_field_39 : decode cX12_field 39 = .ok (.iconst 0, 1) := by decide +kernel
theorem dX12_field_40 : decode cX12_field 40 = .ok (.ireturn, 1) := by decide +kernel
theorem dX12_method_0 : decode cX12_method 0 = .ok (.iload_n 3, 1) := by decide +kernel
theorem dX12_method_1 : decode cX12_method 1 = .ok (.ifCond .ne 11, 3) := by decide +kernel
theorem dX12_method_4 : decode cX12_method 4 = .ok (.iload 4, 2) := by decide +kernel
theorem dX12_method_6 : decode cX12_method 6 = .ok (.ifCond .ne 32, 3) := by decide +kernel
theorem dX12_method_9 : decode cX12_method 9 = .ok (.goto 11, 3) := by decide +kernel
theorem dX12_method_12 : decode cX12_method 12 = .ok (.aload_n 0, 1) := by decide +kernel
theorem dX12_method_13 : decode cX12_method 13 = .ok (.iload_n 3, 1) := by decide +kernel
theorem dX12_method_14 : decode cX12_method 14 = .ok (.invokevirtual 305, 3) := by decide +kernel
theorem dX12_method_17 : decode cX12_method 17 = .ok (.ifCond .eq 21, 3) := by decide +kernel
theorem dX12_method_20 : decode cX12_method 20 = .ok (.iload 4, 2) := by decide +kernel
theorem dX12_method_22 : decode cX12_method 22 = .ok (.ifCond .eq 12, 3) := by decide +kernel
theorem dX12_method_25 : decode cX12_method 25 = .ok (.aload_n 0, 1) := by decide +kernel
theorem dX12_method_26 : decode cX12_method 26 = .ok (.iload 4, 2) := by decide +kernel
theorem dX12_method_28 : decode cX12_method 28 = .ok (.invokevirtual 305, 3) := by decide +kernel
theorem dX12_method_31 : decode cX12_method 31 = .ok (.ifCond .eq 7, 3) := by decide +kernel
theorem dX12_method_34 : decode cX12_method 34 = .ok (.iconst 1, 1) := by decide +kernel
theorem dX12_method_35 : decode cX12_method 35 = .ok (.goto 4, 3) := by decide +kernel
theorem dX12_method_38 : decode cX12_method 38 = .ok (.iconst 0, 1) := by decide +kernel
theorem dX12_method_39 : decode cX12_method 39 = .ok (.istore 7, 2) := by decide +kernel
theorem dX12_method_41 : decode cX12_method 41 = .ok (.aload_n 0, 1) := by decide +kernel
theorem dX12_method_42 : decode cX12_method 42 = .ok (.aload_n 0, 1) := by decide +kernel
theorem dX12_method_43 : decode cX12_method 43 = .ok (.iload_n 1, 1) := by decide +kernel
theorem dX12_method_44 : decode cX12_method 44 = .ok (.invokevirtual 298, 3) := by decide +kernel
theorem dX12_method_47 : decode cX12_method 47 = .ok (.ifCond .eq 26, 3) := by decide +kernel
theorem dX12_method_73 : decode cX12_method 73 = .ok (.iconst 1, 1) := by decide +kernel
theorem dX12_method_74 : decode cX12_method 74 = .ok (.goto 19, 3) := by decide +kernel
theorem dX12_method_93 : decode cX12_method 93 = .ok (.putfield 127, 3) := by decide +kernel
theorem dX12_method_96 : decode cX12_method 96 = .ok (.aload_n 0, 1) := by decide +kernel
theorem dX12_method_97 : decode cX12_method 97 = .ok (.getfield 127, 3) := by decide +kernel
theorem dX12_method_100 : decode cX12_method 100 = .ok (.ifCond .le 5, 3) := by decide +kernel
theorem dX12_method_103 : decode cX12_method 103 = .ok (.iconst 0, 1) := by decide +kernel
theorem dX12_method_104 : decode cX12_method 104 = .ok (.ireturn, 1) := by decide +kernel
theorem dX12_make_0 : decode cX12_make 0 = .ok (.aload_n 0, 1) := by decide +kernel
theorem dX12_make_1 : decode cX12_make 1 = .ok (.aload_n 0, 1) := by decide +kernel
theorem dX12_make_2 : decode cX12_make 2 = .ok (.iload_n 1, 1) := by decide +kernel
theorem dX12_make_3 : decode cX12_make 3 = .ok (.invokevirtual 298, 3) := by decide +kernel
theorem dX12_make_6 : decode cX12_make 6 = .ok (.ifCond .ne 7, 3) := by decide +kernel
theorem dX12_make_9 : decode cX12_make 9 = .ok (.iconst 1, 1) := by decide +kernel
theorem dX12_make_10 : decode cX12_make 10 = .ok (.goto 17, 3) := by decide +kernel
theorem dX12_make_27 : decode cX12_make 27 = .ok (.putfield 127, 3) := by decide +kernel
theorem dX12_make_30 : decode cX12_make 30 = .ok (.aload_n 0, 1) := by decide +kernel
theorem dX12_make_31 : decode cX12_make 31 = .ok (.getfield 127, 3) := by decide +kernel
theorem dX12_make_34 : decode cX12_make 34 = .ok (.ifCond .le 5, 3) := by decide +kernel
theorem dX12_make_37 : decode cX12_make 37 = .ok (.iconst 0, 1) := by decide +kernel
