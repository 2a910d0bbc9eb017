theorem d_Cls_checkOne_0 : decode prog_1_method_22_code 0 = .ok (.aload_n 1, 1) := by decide +kernel
theorem d_Cls_checkOne_1 : decode prog_1_method_22_code 1 = .ok (.ifnonnull 4, 3) := by decide +kernel
theorem d_Cls_checkOne_4 : decode prog_1_method_22_code 4 = .ok (.return_, 1) := by decide +kernel
theorem d_Cls_checkOne_5 : decode prog_1_method_22_code 5 = .ok (.aload_n 1, 1) := by decide +kernel
theorem d_Cls_checkOne_6 : decode prog_1_method_22_code 6 = .ok (.getfield 93, 3) := by decide +kernel
theorem d_Cls_checkOne_9 : decode prog_1_method_22_code 9 = .ok (.aload_n 0, 1) := by decide +kernel
theorem d_Cls_checkOne_10 : decode prog_1_method_22_code 10 = .ok (.getfield 45, 3) := by decide +kernel
theorem d_Cls_checkOne_13 : decode prog_1_method_22_code 13 = .ok (.if_icmp .le 9, 3) := by decide +kernel
theorem d_Cls_checkOne_16 : decode prog_1_method_22_code 16 = .ok (.aload_n 1, 1) := by decide +kernel
theorem d_Cls_checkOne_17 : decode prog_1_method_22_code 17 = .ok (.iconst 0, 1) := by decide +kernel
theorem d_Cls_checkOne_18 : decode prog_1_method_22_code 18 = .ok (.putfield 193, 3) := by decide +kernel
theorem d_Cls_checkOne_21 : decode prog_1_method_22_code 21 = .ok (.return_, 1) := by decide +kernel
theorem d_Cls_checkOne_22 : decode prog_1_method_22_code 22 = .ok (.aload_n 1, 1) := by decide +kernel
theorem d_Cls_checkOne_23 : decode prog_1_method_22_code 23 = .ok (.aload_n 0, 1) := by decide +kernel
theorem d_Cls_checkOne_24 : decode prog_1_method_22_code 24 = .ok (.getfield 21, 3) := by decide +kernel
theorem d_Cls_checkOne_27 : decode prog_1_method_22_code 27 = .ok (.aload_n 1, 1) := by decide +kernel
theorem d_Cls_checkOne_28 : decode prog_1_method_22_code 28 = .ok (.getfield 129, 3) := by decide +kernel
theorem d_Cls_checkOne_31 : decode prog_1_method_22_code 31 = .ok (.invokevirtual 133, 3) := by decide +kernel
theorem d_Cls_checkOne_34 : decode prog_1_method_22_code 34 = .ok (.invokevirtual 196, 3) := by decide +kernel
theorem d_Cls_checkOne_37 : decode prog_1_method_22_code 37 = .ok (.return_, 1) := by decide +kernel
theorem d_Cls_check_0 : decode prog_1_method_9_code 0 = .ok (.aload_n 0, 1) := by decide +kernel
theorem d_Cls_check_1 : decode prog_1_method_9_code 1 = .ok (.dup, 1) := by decide +kernel
theorem d_Cls_check_2 : decode prog_1_method_9_code 2 = .ok (.getfield 42, 3) := by decide +kernel
theorem d_Cls_check_5 : decode prog_1_method_9_code 5 = .ok (.iconst 1, 1) := by decide +kernel
theorem d_Cls_check_6 : decode prog_1_method_9_code 6 = .ok (.iadd, 1) := by decide +kernel
theorem d_Cls_check_7 : decode prog_1_method_9_code 7 = .ok (.putfield 42, 3) := by decide +kernel
theorem d_Cls_check_10 : decode prog_1_method_9_code 10 = .ok (.iconst 0, 1) := by decide +kernel
theorem d_Cls_check_11 : decode prog_1_method_9_code 11 = .ok (.istore_n 1, 1) := by decide +kernel
theorem d_Cls_check_12 : decode prog_1_method_9_code 12 = .ok (.iload_n 1, 1) := by decide +kernel
theorem d_Cls_check_13 : decode prog_1_method_9_code 13 = .ok (.aload_n 0, 1) := by decide +kernel
theorem d_Cls_check_14 : decode prog_1_method_9_code 14 = .ok (.getfield 38, 3) := by decide +kernel
theorem d_Cls_check_17 : decode prog_1_method_9_code 17 = .ok (.if_icmp .ge 18, 3) := by decide +kernel
theorem d_Cls_check_20 : decode prog_1_method_9_code 20 = .ok (.aload_n 0, 1) := by decide +kernel
theorem d_Cls_check_21 : decode prog_1_method_9_code 21 = .ok (.aload_n 0, 1) := by decide +kernel
theorem d_Cls_check_22 : decode prog_1_method_9_code 22 = .ok (.iload_n 1, 1) := by decide +kernel
theorem d_Cls_check_23 : decode prog_1_method_9_code 23 = .ok (.invokevirtual 79, 3) := by decide +kernel
theorem d_Cls_check_26 : decode prog_1_method_9_code 26 = .ok (.invokevirtual 113, 3) := by decide +kernel
theorem d_Cls_check_29 : decode prog_1_method_9_code 29 = .ok (.iinc 1 1, 3) := by decide +kernel
theorem d_Cls_check_32 : decode prog_1_method_9_code 32 = .ok (.goto (-20), 3) := by decide +kernel
theorem d_Cls_check_35 : decode prog_1_method_9_code 35 = .ok (.aload_n 0, 1) := by decide +kernel
theorem d_Cls_check_36 : decode prog_1_method_9_code 36 = .ok (.iconst 0, 1) := by decide +kernel
theorem d_Cls_check_37 : decode prog_1_method_9_code 37 = .ok (.iconst 1, 1) := by decide +kernel
theorem d_Cls_check_38 : decode prog_1_method_9_code 38 = .ok (.invokevirtual 117, 3) := by decide +kernel
theorem d_Cls_check_41 : decode prog_1_method_9_code 41 = .ok (.ireturn, 1) := by decide +kernel
theorem d_Cls_was_0 : decode prog_1_method_11_code 0 = .ok (.aload_n 0, 1) := by decide +kernel
theorem d_Cls_was_1 : decode prog_1_method_11_code 1 = .ok (.iload_n 1, 1) := by decide +kernel
theorem d_Cls_was_2 : decode prog_1_method_11_code 2 = .ok (.invokevirtual 79, 3) := by decide +kernel
theorem d_Cls_was_5 : decode prog_1_method_11_code 5 = .ok (.astore_n 2, 1) := by decide +kernel
theorem d_Cls_was_6 : decode prog_1_method_11_code 6 = .ok (.aload_n 2, 1) := by decide +kernel
theorem d_Cls_was_7 : decode prog_1_method_11_code 7 = .ok (.ifnonnull 13, 3) := by decide +kernel
theorem d_Cls_was_10 : decode prog_1_method_11_code 10 = .ok (.new 121, 3) := by decide +kernel
theorem d_Cls_was_13 : decode prog_1_method_11_code 13 = .ok (.dup, 1) := by decide +kernel
theorem d_Cls_was_14 : decode prog_1_method_11_code 14 = .ok (.ldc 123, 2) := by decide +kernel
theorem d_Cls_was_16 : decode prog_1_method_11_code 16 = .ok (.invokespecial 125, 3) := by decide +kernel
theorem d_Cls_was_19 : decode prog_1_method_11_code 19 = .ok (.athrow, 1) := by decide +kernel
theorem d_Cls_was_20 : decode prog_1_method_11_code 20 = .ok (.aload_n 2, 1) := by decide +kernel
theorem d_Cls_was_21 : decode prog_1_method_11_code 21 = .ok (.getfield 126, 3) := by decide +kernel
theorem d_Cls_was_24 : decode prog_1_method_11_code 24 = .ok (.ireturn, 1) := by decide +kernel
theorem d_Cls_is_0 : decode prog_1_method_12_code 0 = .ok (.aload_n 0, 1) := by decide +kernel
theorem d_Cls_is_1 : decode prog_1_method_12_code 1 = .ok (.iload_n 1, 1) := by decide +kernel
theorem d_Cls_is_2 : decode prog_1_method_12_code 2 = .ok (.invokevirtual 79, 3) := by decide +kernel
theorem d_Cls_is_5 : decode prog_1_method_12_code 5 = .ok (.astore_n 2, 1) := by decide +kernel
theorem d_Cls_is_6 : decode prog_1_method_12_code 6 = .ok (.aload_n 2, 1) := by decide +kernel
theorem d_Cls_is_7 : decode prog_1_method_12_code 7 = .ok (.ifnonnull 13, 3) := by decide +kernel
theorem d_Cls_is_10 : decode prog_1_method_12_code 10 = .ok (.new 121, 3) := by decide +kernel
theorem d_Cls_is_13 : decode prog_1_method_12_code 13 = .ok (.dup, 1) := by decide +kernel
theorem d_Cls_is_14 : decode prog_1_method_12_code 14 = .ok (.ldc 123, 2) := by decide +kernel
theorem d_Cls_is_16 : decode prog_1_method_12_code 16 = .ok (.invokespecial 125, 3) := by decide +kernel
theorem d_Cls_is_19 : decode prog_1_method_12_code 19 = .ok (.athrow, 1) := by decide +kernel
theorem d_Cls_is_20 : decode prog_1_method_12_code 20 = .ok (.aload_n 0, 1) := by decide +kernel
theorem d_Cls_is_21 : decode prog_1_method_12_code 21 = .ok (.getfield 21, 3) := by decide +kernel
theorem d_Cls_is_24 : decode prog_1_method_12_code 24 = .ok (.aload_n 2, 1) := by decide +kernel
theorem d_Cls_is_25 : decode prog_1_method_12_code 25 = .ok (.getfield 129, 3) := by decide +kernel
theorem d_Cls_is_28 : decode prog_1_method_12_code 28 = .ok (.invokevirtual 133, 3) := by decide +kernel
theorem d_Cls_is_31 : decode prog_1_method_12_code 31 = .ok (.ireturn, 1) := by decide +kernel
theorem d_Cls_node_0 : decode prog_1_method_16_code 0 = .ok (.aload_n 0, 1) := by decide +kernel
theorem d_Cls_node_1 : decode prog_1_method_16_code 1 = .ok (.iload_n 1, 1) := by decide +kernel
theorem d_Cls_node_2 : decode prog_1_method_16_code 2 = .ok (.invokevirtual 79, 3) := by decide +kernel
theorem d_Cls_node_5 : decode prog_1_method_16_code 5 = .ok (.astore 4, 2) := by decide +kernel
theorem d_Cls_node_7 : decode prog_1_method_16_code 7 = .ok (.aload 4, 2) := by decide +kernel
theorem d_Cls_node_9 : decode prog_1_method_16_code 9 = .ok (.ifnull 28, 3) := by decide +kernel
theorem d_Cls_node_12 : decode prog_1_method_16_code 12 = .ok (.iload_n 2, 1) := by decide +kernel
theorem d_Cls_node_13 : decode prog_1_method_16_code 13 = .ok (.ifCond .lt 24, 3) := by decide +kernel
theorem d_Cls_node_16 : decode prog_1_method_16_code 16 = .ok (.iload_n 2, 1) := by decide +kernel
theorem d_Cls_node_17 : decode prog_1_method_16_code 17 = .ok (.aload 4, 2) := by decide +kernel
theorem d_Cls_node_19 : decode prog_1_method_16_code 19 = .ok (.getfield 129, 3) := by decide +kernel
theorem d_Cls_node_22 : decode prog_1_method_16_code 22 = .ok (.invokevirtual 150, 3) := by decide +kernel
theorem d_Cls_node_25 : decode prog_1_method_16_code 25 = .ok (.if_icmp .ge 12, 3) := by decide +kernel
theorem d_Cls_node_28 : decode prog_1_method_16_code 28 = .ok (.iload_n 3, 1) := by decide +kernel
theorem d_Cls_node_29 : decode prog_1_method_16_code 29 = .ok (.ifCond .lt 8, 3) := by decide +kernel
theorem d_Cls_node_32 : decode prog_1_method_16_code 32 = .ok (.iload_n 3, 1) := by decide +kernel
theorem d_Cls_node_33 : decode prog_1_method_16_code 33 = .ok (.iconst 3, 1) := by decide +kernel
theorem d_Cls_node_34 : decode prog_1_method_16_code 34 = .ok (.if_icmp .le 13, 3) := by decide +kernel
theorem d_Cls_node_37 : decode prog_1_method_16_code 37 = .ok (.new 153, 3) := by decide +kernel
theorem d_Cls_node_40 : decode prog_1_method_16_code 40 = .ok (.dup, 1) := by decide +kernel
theorem d_Cls_node_41 : decode prog_1_method_16_code 41 = .ok (.ldc 155, 2) := by decide +kernel
theorem d_Cls_node_43 : decode prog_1_method_16_code 43 = .ok (.invokespecial 157, 3) := by decide +kernel
theorem d_Cls_node_46 : decode prog_1_method_16_code 46 = .ok (.athrow, 1) := by decide +kernel
theorem d_Cls_node_47 : decode prog_1_method_16_code 47 = .ok (.iload_n 3, 1) := by decide +kernel
theorem d_Cls_node_48 : decode prog_1_method_16_code 48 = .ok (.tableswitch 58 0 2 #[28, 38, 48], 28) := by decide +kernel
theorem d_Cls_node_76 : decode prog_1_method_16_code 76 = .ok (.aload 4, 2) := by decide +kernel
theorem d_Cls_node_78 : decode prog_1_method_16_code 78 = .ok (.getfield 129, 3) := by decide +kernel
theorem d_Cls_node_81 : decode prog_1_method_16_code 81 = .ok (.iload_n 2, 1) := by decide +kernel
theorem d_Cls_node_82 : decode prog_1_method_16_code 82 = .ok (.invokevirtual 158, 3) := by decide +kernel
theorem d_Cls_node_85 : decode prog_1_method_16_code 85 = .ok (.ireturn, 1) := by decide +kernel
theorem d_Cls_node_86 : decode prog_1_method_16_code 86 = .ok (.aload 4, 2) := by decide +kernel
theorem d_Cls_node_88 : decode prog_1_method_16_code 88 = .ok (.getfield 129, 3) := by decide +kernel
theorem d_Cls_node_91 : decode prog_1_method_16_code 91 = .ok (.iload_n 2, 1) := by decide +kernel
theorem d_Cls_node_92 : decode prog_1_method_16_code 92 = .ok (.invokevirtual 162, 3) := by decide +kernel
theorem d_Cls_node_95 : decode prog_1_method_16_code 95 = .ok (.ireturn, 1) := by decide +kernel
theorem d_Cls_node_96 : decode prog_1_method_16_code 96 = .ok (.aload 4, 2) := by decide +kernel
theorem d_Cls_node_98 : decode prog_1_method_16_code 98 = .ok (.getfield 129, 3) := by decide +kernel
theorem d_Cls_node_101 : decode prog_1_method_16_code 101 = .ok (.iload_n 2, 1) := by decide +kernel
theorem d_Cls_node_102 : decode prog_1_method_16_code 102 = .ok (.invokevirtual 165, 3) := by decide +kernel
theorem d_Cls_node_105 : decode prog_1_method_16_code 105 = .ok (.ireturn, 1) := by decide +kernel
theorem d_Cls_node_106 : decode prog_1_method_16_code 106 = .ok (.aload 4, 2) := by decide +kernel
theorem d_Cls_node_108 : decode prog_1_method_16_code 108 = .ok (.getfield 129, 3) := by decide +kernel
theorem d_Cls_node_111 : decode prog_1_method_16_code 111 = .ok (.iload_n 2, 1) := by decide +kernel
theorem d_Cls_node_112 : decode prog_1_method_16_code 112 = .ok (.invokevirtual 168, 3) := by decide +kernel
theorem d_Cls_node_115 : decode prog_1_method_16_code 115 = .ok (.ireturn, 1) := by decide +kernel
theorem d_Cls_print_0 : decode prog_1_method_17_code 0 = .ok (.aload_n 0, 1) := by decide +kernel
theorem d_Cls_print_1 : decode prog_1_method_17_code 1 = .ok (.iload_n 1, 1) := by decide +kernel
theorem d_Cls_print_2 : decode prog_1_method_17_code 2 = .ok (.invokevirtual 79, 3) := by decide +kernel
theorem d_Cls_print_5 : decode prog_1_method_17_code 5 = .ok (.astore_n 2, 1) := by decide +kernel
theorem d_Cls_print_6 : decode prog_1_method_17_code 6 = .ok (.aload_n 2, 1) := by decide +kernel
theorem d_Cls_print_7 : decode prog_1_method_17_code 7 = .ok (.ifnonnull 13, 3) := by decide +kernel
theorem d_Cls_print_10 : decode prog_1_method_17_code 10 = .ok (.new 121, 3) := by decide +kernel
theorem d_Cls_print_13 : decode prog_1_method_17_code 13 = .ok (.dup, 1) := by decide +kernel
theorem d_Cls_print_14 : decode prog_1_method_17_code 14 = .ok (.ldc 123, 2) := by decide +kernel
theorem d_Cls_print_16 : decode prog_1_method_17_code 16 = .ok (.invokespecial 125, 3) := by decide +kernel
theorem d_Cls_print_19 : decode prog_1_method_17_code 19 = .ok (.athrow, 1) := by decide +kernel
theorem d_Cls_print_20 : decode prog_1_method_17_code 20 = .ok (.aload_n 0, 1) := by decide +kernel
theorem d_Cls_print_21 : decode prog_1_method_17_code 21 = .ok (.getfield 28, 3) := by decide +kernel
theorem d_Cls_print_24 : decode prog_1_method_17_code 24 = .ok (.aload_n 2, 1) := by decide +kernel
theorem d_Cls_print_25 : decode prog_1_method_17_code 25 = .ok (.getfield 129, 3) := by decide +kernel
theorem d_Cls_print_28 : decode prog_1_method_17_code 28 = .ok (.invokevirtual 171, 3) := by decide +kernel
theorem d_Cls_print_31 : decode prog_1_method_17_code 31 = .ok (.aload_n 0, 1) := by decide +kernel
theorem d_Cls_print_32 : decode prog_1_method_17_code 32 = .ok (.getfield 28, 3) := by decide +kernel
theorem d_Cls_print_35 : decode prog_1_method_17_code 35 = .ok (.getfield 174, 3) := by decide +kernel
theorem d_Cls_print_38 : decode prog_1_method_17_code 38 = .ok (.invokevirtual 177, 3) := by decide +kernel
theorem d_Cls_print_41 : decode prog_1_method_17_code 41 = .ok (.ireturn, 1) := by decide +kernel
theorem d_Cls_at_0 : decode prog_1_method_18_code 0 = .ok (.aload_n 0, 1) := by decide +kernel
theorem d_Cls_at_1 : decode prog_1_method_18_code 1 = .ok (.getfield 28, 3) := by decide +kernel
theorem d_Cls_at_4 : decode prog_1_method_18_code 4 = .ok (.getfield 174, 3) := by decide +kernel
theorem d_Cls_at_7 : decode prog_1_method_18_code 7 = .ok (.iload_n 1, 1) := by decide +kernel
theorem d_Cls_at_8 : decode prog_1_method_18_code 8 = .ok (.invokevirtual 178, 3) := by decide +kernel
theorem d_Cls_at_11 : decode prog_1_method_18_code 11 = .ok (.istore_n 2, 1) := by decide +kernel
theorem d_Cls_at_12 : decode prog_1_method_18_code 12 = .ok (.iload_n 2, 1) := by decide +kernel
theorem d_Cls_at_13 : decode prog_1_method_18_code 13 = .ok (.iconst (-1), 1) := by decide +kernel
theorem d_Cls_at_14 : decode prog_1_method_18_code 14 = .ok (.if_icmp .ne 13, 3) := by decide +kernel
theorem d_Cls_at_17 : decode prog_1_method_18_code 17 = .ok (.new 153, 3) := by decide +kernel
theorem d_Cls_at_20 : decode prog_1_method_18_code 20 = .ok (.dup, 1) := by decide +kernel
theorem d_Cls_at_21 : decode prog_1_method_18_code 21 = .ok (.ldc 181, 2) := by decide +kernel
theorem d_Cls_at_23 : decode prog_1_method_18_code 23 = .ok (.invokespecial 157, 3) := by decide +kernel
theorem d_Cls_at_26 : decode prog_1_method_18_code 26 = .ok (.athrow, 1) := by decide +kernel
theorem d_Cls_at_27 : decode prog_1_method_18_code 27 = .ok (.iload_n 2, 1) := by decide +kernel
theorem d_Cls_at_28 : decode prog_1_method_18_code 28 = .ok (.ireturn, 1) := by decide +kernel
theorem d_Cls_touch_0 : decode prog_1_method_14_code 0 = .ok (.iload_n 1, 1) := by decide +kernel
theorem d_Cls_touch_1 : decode prog_1_method_14_code 1 = .ok (.ifCond .lt 9, 3) := by decide +kernel
theorem d_Cls_touch_4 : decode prog_1_method_14_code 4 = .ok (.iload_n 1, 1) := by decide +kernel
theorem d_Cls_touch_5 : decode prog_1_method_14_code 5 = .ok (.bipush 20, 2) := by decide +kernel
theorem d_Cls_touch_7 : decode prog_1_method_14_code 7 = .ok (.if_icmp .lt 13, 3) := by decide +kernel
theorem d_Cls_touch_10 : decode prog_1_method_14_code 10 = .ok (.new 121, 3) := by decide +kernel
theorem d_Cls_touch_13 : decode prog_1_method_14_code 13 = .ok (.dup, 1) := by decide +kernel
theorem d_Cls_touch_14 : decode prog_1_method_14_code 14 = .ok (.ldc 140, 2) := by decide +kernel
theorem d_Cls_touch_16 : decode prog_1_method_14_code 16 = .ok (.invokespecial 125, 3) := by decide +kernel
theorem d_Cls_touch_19 : decode prog_1_method_14_code 19 = .ok (.athrow, 1) := by decide +kernel
theorem d_Cls_touch_20 : decode prog_1_method_14_code 20 = .ok (.iconst 0, 1) := by decide +kernel
theorem d_Cls_touch_21 : decode prog_1_method_14_code 21 = .ok (.istore_n 2, 1) := by decide +kernel
theorem d_Cls_touch_22 : decode prog_1_method_14_code 22 = .ok (.iconst 0, 1) := by decide +kernel
theorem d_Cls_touch_23 : decode prog_1_method_14_code 23 = .ok (.istore_n 3, 1) := by decide +kernel
theorem d_Cls_touch_24 : decode prog_1_method_14_code 24 = .ok (.iload_n 3, 1) := by decide +kernel
theorem d_Cls_touch_25 : decode prog_1_method_14_code 25 = .ok (.aload_n 0, 1) := by decide +kernel
theorem d_Cls_touch_26 : decode prog_1_method_14_code 26 = .ok (.getfield 38, 3) := by decide +kernel
theorem d_Cls_touch_29 : decode prog_1_method_14_code 29 = .ok (.if_icmp .ge 36, 3) := by decide +kernel
theorem d_Cls_touch_32 : decode prog_1_method_14_code 32 = .ok (.aload_n 0, 1) := by decide +kernel
theorem d_Cls_touch_33 : decode prog_1_method_14_code 33 = .ok (.iload_n 3, 1) := by decide +kernel
theorem d_Cls_touch_34 : decode prog_1_method_14_code 34 = .ok (.invokevirtual 79, 3) := by decide +kernel
theorem d_Cls_touch_37 : decode prog_1_method_14_code 37 = .ok (.astore 4, 2) := by decide +kernel
theorem d_Cls_touch_39 : decode prog_1_method_14_code 39 = .ok (.aload 4, 2) := by decide +kernel
theorem d_Cls_touch_41 : decode prog_1_method_14_code 41 = .ok (.ifnull 18, 3) := by decide +kernel
theorem d_Cls_touch_44 : decode prog_1_method_14_code 44 = .ok (.aload 4, 2) := by decide +kernel
theorem d_Cls_touch_46 : decode prog_1_method_14_code 46 = .ok (.getfield 129, 3) := by decide +kernel
theorem d_Cls_touch_49 : decode prog_1_method_14_code 49 = .ok (.iload_n 1, 1) := by decide +kernel
theorem d_Cls_touch_50 : decode prog_1_method_14_code 50 = .ok (.invokevirtual 142, 3) := by decide +kernel
theorem d_Cls_touch_53 : decode prog_1_method_14_code 53 = .ok (.ifCond .eq 6, 3) := by decide +kernel
theorem d_Cls_touch_56 : decode prog_1_method_14_code 56 = .ok (.iinc 2 1, 3) := by decide +kernel
theorem d_Cls_touch_59 : decode prog_1_method_14_code 59 = .ok (.iinc 3 1, 3) := by decide +kernel
theorem d_Cls_touch_62 : decode prog_1_method_14_code 62 = .ok (.goto (-38), 3) := by decide +kernel
theorem d_Cls_touch_65 : decode prog_1_method_14_code 65 = .ok (.iload_n 2, 1) := by decide +kernel
theorem d_Cls_touch_66 : decode prog_1_method_14_code 66 = .ok (.ireturn, 1) := by decide +kernel
theorem d_Cls_rule_0 : decode prog_1_method_3_code 0 = .ok (.aload_n 0, 1) := by decide +kernel
theorem d_Cls_rule_1 : decode prog_1_method_3_code 1 = .ok (.getfield 38, 3) := by decide +kernel
theorem d_Cls_rule_4 : decode prog_1_method_3_code 4 = .ok (.ifCond .lt 15, 3) := by decide +kernel
theorem d_Cls_rule_7 : decode prog_1_method_3_code 7 = .ok (.aload_n 0, 1) := by decide +kernel
theorem d_Cls_rule_8 : decode prog_1_method_3_code 8 = .ok (.getfield 38, 3) := by decide +kernel
theorem d_Cls_rule_11 : decode prog_1_method_3_code 11 = .ok (.aload_n 0, 1) := by decide +kernel
theorem d_Cls_rule_12 : decode prog_1_method_3_code 12 = .ok (.getfield 34, 3) := by decide +kernel
theorem d_Cls_rule_15 : decode prog_1_method_3_code 15 = .ok (.arraylength, 1) := by decide +kernel
theorem d_Cls_rule_16 : decode prog_1_method_3_code 16 = .ok (.if_icmp .lt 13, 3) := by decide +kernel
theorem d_Cls_rule_19 : decode prog_1_method_3_code 19 = .ok (.new 58, 3) := by decide +kernel
theorem d_Cls_rule_22 : decode prog_1_method_3_code 22 = .ok (.dup, 1) := by decide +kernel
theorem d_Cls_rule_23 : decode prog_1_method_3_code 23 = .ok (.ldc 60, 2) := by decide +kernel
theorem d_Cls_rule_25 : decode prog_1_method_3_code 25 = .ok (.invokespecial 62, 3) := by decide +kernel
theorem d_Cls_rule_28 : decode prog_1_method_3_code 28 = .ok (.athrow, 1) := by decide +kernel
theorem d_Cls_rule_29 : decode prog_1_method_3_code 29 = .ok (.aload_n 0, 1) := by decide +kernel
theorem d_Cls_rule_30 : decode prog_1_method_3_code 30 = .ok (.getfield 12, 3) := by decide +kernel
theorem d_Cls_rule_33 : decode prog_1_method_3_code 33 = .ok (.invokevirtual 65, 3) := by decide +kernel
theorem d_Cls_rule_36 : decode prog_1_method_3_code 36 = .ok (.istore_n 1, 1) := by decide +kernel
theorem d_Cls_rule_37 : decode prog_1_method_3_code 37 = .ok (.aload_n 0, 1) := by decide +kernel
theorem d_Cls_rule_38 : decode prog_1_method_3_code 38 = .ok (.getfield 12, 3) := by decide +kernel
theorem d_Cls_rule_41 : decode prog_1_method_3_code 41 = .ok (.getfield 48, 3) := by decide +kernel
theorem d_Cls_rule_44 : decode prog_1_method_3_code 44 = .ok (.invokevirtual 69, 3) := by decide +kernel
theorem d_Cls_rule_47 : decode prog_1_method_3_code 47 = .ok (.iload_n 1, 1) := by decide +kernel
theorem d_Cls_rule_48 : decode prog_1_method_3_code 48 = .ok (.iconst (-1), 1) := by decide +kernel
theorem d_Cls_rule_49 : decode prog_1_method_3_code 49 = .ok (.if_icmp .eq 7, 3) := by decide +kernel
theorem d_Cls_rule_52 : decode prog_1_method_3_code 52 = .ok (.iconst (-1), 1) := by decide +kernel
theorem d_Cls_rule_53 : decode prog_1_method_3_code 53 = .ok (.iload_n 1, 1) := by decide +kernel
theorem d_Cls_rule_54 : decode prog_1_method_3_code 54 = .ok (.isub, 1) := by decide +kernel
theorem d_Cls_rule_55 : decode prog_1_method_3_code 55 = .ok (.ireturn, 1) := by decide +kernel
theorem d_Cls_rule_56 : decode prog_1_method_3_code 56 = .ok (.aload_n 0, 1) := by decide +kernel
theorem d_Cls_rule_57 : decode prog_1_method_3_code 57 = .ok (.getfield 34, 3) := by decide +kernel
theorem d_Cls_rule_60 : decode prog_1_method_3_code 60 = .ok (.aload_n 0, 1) := by decide +kernel
theorem d_Cls_rule_61 : decode prog_1_method_3_code 61 = .ok (.getfield 38, 3) := by decide +kernel
theorem d_Cls_rule_64 : decode prog_1_method_3_code 64 = .ok (.new 32, 3) := by decide +kernel
theorem d_Cls_rule_67 : decode prog_1_method_3_code 67 = .ok (.dup, 1) := by decide +kernel
theorem d_Cls_rule_68 : decode prog_1_method_3_code 68 = .ok (.aload_n 0, 1) := by decide +kernel
theorem d_Cls_rule_69 : decode prog_1_method_3_code 69 = .ok (.getfield 12, 3) := by decide +kernel
theorem d_Cls_rule_72 : decode prog_1_method_3_code 72 = .ok (.invokevirtual 72, 3) := by decide +kernel
theorem d_Cls_rule_75 : decode prog_1_method_3_code 75 = .ok (.invokespecial 76, 3) := by decide +kernel
theorem d_Cls_rule_78 : decode prog_1_method_3_code 78 = .ok (.aastore, 1) := by decide +kernel
theorem d_Cls_rule_79 : decode prog_1_method_3_code 79 = .ok (.aload_n 0, 1) := by decide +kernel
theorem d_Cls_rule_80 : decode prog_1_method_3_code 80 = .ok (.dup, 1) := by decide +kernel
theorem d_Cls_rule_81 : decode prog_1_method_3_code 81 = .ok (.getfield 38, 3) := by decide +kernel
theorem d_Cls_rule_84 : decode prog_1_method_3_code 84 = .ok (.iconst 1, 1) := by decide +kernel
theorem d_Cls_rule_85 : decode prog_1_method_3_code 85 = .ok (.iadd, 1) := by decide +kernel
theorem d_Cls_rule_86 : decode prog_1_method_3_code 86 = .ok (.putfield 38, 3) := by decide +kernel
theorem d_Cls_rule_89 : decode prog_1_method_3_code 89 = .ok (.aload_n 0, 1) := by decide +kernel
theorem d_Cls_rule_90 : decode prog_1_method_3_code 90 = .ok (.getfield 38, 3) := by decide +kernel
theorem d_Cls_rule_93 : decode prog_1_method_3_code 93 = .ok (.iconst 1, 1) := by decide +kernel
theorem d_Cls_rule_94 : decode prog_1_method_3_code 94 = .ok (.isub, 1) := by decide +kernel
theorem d_Cls_rule_95 : decode prog_1_method_3_code 95 = .ok (.ireturn, 1) := by decide +kernel
theorem d_Cls_init_0 : decode prog_1_method_1_code 0 = .ok (.aload_n 0, 1) := by decide +kernel
theorem d_Cls_init_1 : decode prog_1_method_1_code 1 = .ok (.invokespecial 3, 3) := by decide +kernel
theorem d_Cls_init_4 : decode prog_1_method_1_code 4 = .ok (.aload_n 0, 1) := by decide +kernel
theorem d_Cls_init_5 : decode prog_1_method_1_code 5 = .ok (.new 9, 3) := by decide +kernel
theorem d_Cls_init_8 : decode prog_1_method_1_code 8 = .ok (.dup, 1) := by decide +kernel
theorem d_Cls_init_9 : decode prog_1_method_1_code 9 = .ok (.invokespecial 11, 3) := by decide +kernel
theorem d_Cls_init_12 : decode prog_1_method_1_code 12 = .ok (.putfield 12, 3) := by decide +kernel
theorem d_Cls_init_15 : decode prog_1_method_1_code 15 = .ok (.aload_n 0, 1) := by decide +kernel
theorem d_Cls_init_16 : decode prog_1_method_1_code 16 = .ok (.new 18, 3) := by decide +kernel
theorem d_Cls_init_19 : decode prog_1_method_1_code 19 = .ok (.dup, 1) := by decide +kernel
theorem d_Cls_init_20 : decode prog_1_method_1_code 20 = .ok (.invokespecial 20, 3) := by decide +kernel
theorem d_Cls_init_23 : decode prog_1_method_1_code 23 = .ok (.putfield 21, 3) := by decide +kernel
theorem d_Cls_init_26 : decode prog_1_method_1_code 26 = .ok (.aload_n 0, 1) := by decide +kernel
theorem d_Cls_init_27 : decode prog_1_method_1_code 27 = .ok (.new 25, 3) := by decide +kernel
theorem d_Cls_init_30 : decode prog_1_method_1_code 30 = .ok (.dup, 1) := by decide +kernel
theorem d_Cls_init_31 : decode prog_1_method_1_code 31 = .ok (.invokespecial 27, 3) := by decide +kernel
theorem d_Cls_init_34 : decode prog_1_method_1_code 34 = .ok (.putfield 28, 3) := by decide +kernel
theorem d_Cls_init_37 : decode prog_1_method_1_code 37 = .ok (.aload_n 0, 1) := by decide +kernel
theorem d_Cls_init_38 : decode prog_1_method_1_code 38 = .ok (.bipush 20, 2) := by decide +kernel
theorem d_Cls_init_40 : decode prog_1_method_1_code 40 = .ok (.anewarray 32, 3) := by decide +kernel
theorem d_Cls_init_43 : decode prog_1_method_1_code 43 = .ok (.putfield 34, 3) := by decide +kernel
theorem d_Cls_init_46 : decode prog_1_method_1_code 46 = .ok (.aload_n 0, 1) := by decide +kernel
theorem d_Cls_init_47 : decode prog_1_method_1_code 47 = .ok (.iconst 0, 1) := by decide +kernel
theorem d_Cls_init_48 : decode prog_1_method_1_code 48 = .ok (.putfield 38, 3) := by decide +kernel
theorem d_Cls_init_51 : decode prog_1_method_1_code 51 = .ok (.aload_n 0, 1) := by decide +kernel
theorem d_Cls_init_52 : decode prog_1_method_1_code 52 = .ok (.iconst 0, 1) := by decide +kernel
theorem d_Cls_init_53 : decode prog_1_method_1_code 53 = .ok (.putfield 42, 3) := by decide +kernel
theorem d_Cls_init_56 : decode prog_1_method_1_code 56 = .ok (.aload_n 0, 1) := by decide +kernel
theorem d_Cls_init_57 : decode prog_1_method_1_code 57 = .ok (.iconst 0, 1) := by decide +kernel
theorem d_Cls_init_58 : decode prog_1_method_1_code 58 = .ok (.putfield 45, 3) := by decide +kernel
theorem d_Cls_init_61 : decode prog_1_method_1_code 61 = .ok (.return_, 1) := by decide +kernel
theorem d_Rdr_copyOfTree_0 : decode prog_4_method_2_code 0 = .ok (.aload_n 0, 1) := by decide +kernel
theorem d_Rdr_copyOfTree_1 : decode prog_4_method_2_code 1 = .ok (.getfield 21, 3) := by decide +kernel
theorem d_Rdr_copyOfTree_4 : decode prog_4_method_2_code 4 = .ok (.invokevirtual 35, 3) := by decide +kernel
theorem d_Rdr_copyOfTree_7 : decode prog_4_method_2_code 7 = .ok (.areturn, 1) := by decide +kernel
