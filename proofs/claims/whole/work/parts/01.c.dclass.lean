theorem d_GT_init_0 : decode b_GT_init 0 = .ok (.aload_n 0, 1) := by decide +kernel
theorem d_GT_init_1 : decode b_GT_init 1 = .ok (.invokespecial 3, 3) := by decide +kernel
theorem d_GT_init_4 : decode b_GT_init 4 = .ok (.aload_n 0, 1) := by decide +kernel
theorem d_GT_init_5 : decode b_GT_init 5 = .ok (.new 9, 3) := by decide +kernel
theorem d_GT_init_8 : decode b_GT_init 8 = .ok (.dup, 1) := by decide +kernel
theorem d_GT_init_9 : decode b_GT_init 9 = .ok (.invokespecial 11, 3) := by decide +kernel
theorem d_GT_init_12 : decode b_GT_init 12 = .ok (.putfield 12, 3) := by decide +kernel
theorem d_GT_init_15 : decode b_GT_init 15 = .ok (.aload_n 0, 1) := by decide +kernel
theorem d_GT_init_16 : decode b_GT_init 16 = .ok (.new 9, 3) := by decide +kernel
theorem d_GT_init_19 : decode b_GT_init 19 = .ok (.dup, 1) := by decide +kernel
theorem d_GT_init_20 : decode b_GT_init 20 = .ok (.invokespecial 11, 3) := by decide +kernel
theorem d_GT_init_23 : decode b_GT_init 23 = .ok (.putfield 16, 3) := by decide +kernel
theorem d_GT_init_26 : decode b_GT_init 26 = .ok (.aload_n 0, 1) := by decide +kernel
theorem d_GT_init_27 : decode b_GT_init 27 = .ok (.new 9, 3) := by decide +kernel
theorem d_GT_init_30 : decode b_GT_init 30 = .ok (.dup, 1) := by decide +kernel
theorem d_GT_init_31 : decode b_GT_init 31 = .ok (.invokespecial 11, 3) := by decide +kernel
theorem d_GT_init_34 : decode b_GT_init 34 = .ok (.putfield 19, 3) := by decide +kernel
theorem d_GT_init_37 : decode b_GT_init 37 = .ok (.aload_n 0, 1) := by decide +kernel
theorem d_GT_init_38 : decode b_GT_init 38 = .ok (.iconst 0, 1) := by decide +kernel
theorem d_GT_init_39 : decode b_GT_init 39 = .ok (.putfield 22, 3) := by decide +kernel
theorem d_GT_init_42 : decode b_GT_init 42 = .ok (.aload_n 0, 1) := by decide +kernel
theorem d_GT_init_43 : decode b_GT_init 43 = .ok (.lconst 0, 1) := by decide +kernel
theorem d_GT_init_44 : decode b_GT_init 44 = .ok (.putfield 26, 3) := by decide +kernel
theorem d_GT_init_47 : decode b_GT_init 47 = .ok (.iconst 1, 1) := by decide +kernel
theorem d_GT_init_48 : decode b_GT_init 48 = .ok (.bipush 12, 2) := by decide +kernel
theorem d_GT_init_50 : decode b_GT_init 50 = .ok (.iload_n 1, 1) := by decide +kernel
theorem d_GT_init_51 : decode b_GT_init 51 = .ok (.invokestatic 30, 3) := by decide +kernel
theorem d_GT_init_54 : decode b_GT_init 54 = .ok (.invokestatic 36, 3) := by decide +kernel
theorem d_GT_init_57 : decode b_GT_init 57 = .ok (.istore_n 2, 1) := by decide +kernel
theorem d_GT_init_58 : decode b_GT_init 58 = .ok (.aload_n 0, 1) := by decide +kernel
theorem d_GT_init_59 : decode b_GT_init 59 = .ok (.iload_n 2, 1) := by decide +kernel
theorem d_GT_init_60 : decode b_GT_init 60 = .ok (.anewarray 39, 3) := by decide +kernel
theorem d_GT_init_63 : decode b_GT_init 63 = .ok (.putfield 41, 3) := by decide +kernel
theorem d_GT_init_66 : decode b_GT_init 66 = .ok (.aload_n 0, 1) := by decide +kernel
theorem d_GT_init_67 : decode b_GT_init 67 = .ok (.iload_n 2, 1) := by decide +kernel
theorem d_GT_init_68 : decode b_GT_init 68 = .ok (.iconst 1, 1) := by decide +kernel
theorem d_GT_init_69 : decode b_GT_init 69 = .ok (.iadd, 1) := by decide +kernel
theorem d_GT_init_70 : decode b_GT_init 70 = .ok (.anewarray 45, 3) := by decide +kernel
theorem d_GT_init_73 : decode b_GT_init 73 = .ok (.putfield 47, 3) := by decide +kernel
theorem d_GT_init_76 : decode b_GT_init 76 = .ok (.aload_n 0, 1) := by decide +kernel
theorem d_GT_init_77 : decode b_GT_init 77 = .ok (.iload_n 2, 1) := by decide +kernel
theorem d_GT_init_78 : decode b_GT_init 78 = .ok (.iconst 1, 1) := by decide +kernel
theorem d_GT_init_79 : decode b_GT_init 79 = .ok (.iadd, 1) := by decide +kernel
theorem d_GT_init_80 : decode b_GT_init 80 = .ok (.newarray .int, 2) := by decide +kernel
theorem d_GT_init_82 : decode b_GT_init 82 = .ok (.putfield 51, 3) := by decide +kernel
theorem d_GT_init_85 : decode b_GT_init 85 = .ok (.iconst 0, 1) := by decide +kernel
theorem d_GT_init_86 : decode b_GT_init 86 = .ok (.istore_n 3, 1) := by decide +kernel
theorem d_GT_init_87 : decode b_GT_init 87 = .ok (.iload_n 3, 1) := by decide +kernel
theorem d_GT_init_88 : decode b_GT_init 88 = .ok (.iload_n 2, 1) := by decide +kernel
theorem d_GT_init_89 : decode b_GT_init 89 = .ok (.if_icmp .ge 22, 3) := by decide +kernel
theorem d_GT_init_92 : decode b_GT_init 92 = .ok (.aload_n 0, 1) := by decide +kernel
theorem d_GT_init_93 : decode b_GT_init 93 = .ok (.getfield 41, 3) := by decide +kernel
theorem d_GT_init_96 : decode b_GT_init 96 = .ok (.iload_n 3, 1) := by decide +kernel
theorem d_GT_init_97 : decode b_GT_init 97 = .ok (.new 39, 3) := by decide +kernel
theorem d_GT_init_100 : decode b_GT_init 100 = .ok (.dup, 1) := by decide +kernel
theorem d_GT_init_101 : decode b_GT_init 101 = .ok (.invokespecial 55, 3) := by decide +kernel
theorem d_GT_init_104 : decode b_GT_init 104 = .ok (.aastore, 1) := by decide +kernel
theorem d_GT_init_105 : decode b_GT_init 105 = .ok (.iinc 3 1, 3) := by decide +kernel
theorem d_GT_init_108 : decode b_GT_init 108 = .ok (.goto (-21), 3) := by decide +kernel
theorem d_GT_init_111 : decode b_GT_init 111 = .ok (.iconst 0, 1) := by decide +kernel
theorem d_GT_init_112 : decode b_GT_init 112 = .ok (.istore_n 3, 1) := by decide +kernel
theorem d_GT_init_113 : decode b_GT_init 113 = .ok (.iload_n 3, 1) := by decide +kernel
theorem d_GT_init_114 : decode b_GT_init 114 = .ok (.iload_n 2, 1) := by decide +kernel
theorem d_GT_init_115 : decode b_GT_init 115 = .ok (.if_icmp .gt 22, 3) := by decide +kernel
theorem d_GT_init_118 : decode b_GT_init 118 = .ok (.aload_n 0, 1) := by decide +kernel
theorem d_GT_init_119 : decode b_GT_init 119 = .ok (.getfield 47, 3) := by decide +kernel
theorem d_GT_init_122 : decode b_GT_init 122 = .ok (.iload_n 3, 1) := by decide +kernel
theorem d_GT_init_123 : decode b_GT_init 123 = .ok (.new 45, 3) := by decide +kernel
theorem d_GT_init_126 : decode b_GT_init 126 = .ok (.dup, 1) := by decide +kernel
theorem d_GT_init_127 : decode b_GT_init 127 = .ok (.invokespecial 56, 3) := by decide +kernel
theorem d_GT_init_130 : decode b_GT_init 130 = .ok (.aastore, 1) := by decide +kernel
theorem d_GT_init_131 : decode b_GT_init 131 = .ok (.iinc 3 1, 3) := by decide +kernel
theorem d_GT_init_134 : decode b_GT_init 134 = .ok (.goto (-21), 3) := by decide +kernel
theorem d_GT_init_137 : decode b_GT_init 137 = .ok (.return_, 1) := by decide +kernel
theorem d_GT_item_0 : decode b_GT_item 0 = .ok (.lload_n 3, 1) := by decide +kernel
theorem d_GT_item_1 : decode b_GT_item 1 = .ok (.lconst 1, 1) := by decide +kernel
theorem d_GT_item_2 : decode b_GT_item 2 = .ok (.lcmp, 1) := by decide +kernel
theorem d_GT_item_3 : decode b_GT_item 3 = .ok (.ifCond .lt 27, 3) := by decide +kernel
theorem d_GT_item_6 : decode b_GT_item 6 = .ok (.lload_n 3, 1) := by decide +kernel
theorem d_GT_item_7 : decode b_GT_item 7 = .ok (.ldc2_w 57, 3) := by decide +kernel
theorem d_GT_item_10 : decode b_GT_item 10 = .ok (.lcmp, 1) := by decide +kernel
theorem d_GT_item_11 : decode b_GT_item 11 = .ok (.ifCond .gt 19, 3) := by decide +kernel
theorem d_GT_item_14 : decode b_GT_item 14 = .ok (.aload_n 0, 1) := by decide +kernel
theorem d_GT_item_15 : decode b_GT_item 15 = .ok (.lload_n 1, 1) := by decide +kernel
theorem d_GT_item_16 : decode b_GT_item 16 = .ok (.invokevirtual 59, 3) := by decide +kernel
theorem d_GT_item_19 : decode b_GT_item 19 = .ok (.ifCond .eq 11, 3) := by decide +kernel
theorem d_GT_item_22 : decode b_GT_item 22 = .ok (.aload_n 0, 1) := by decide +kernel
theorem d_GT_item_23 : decode b_GT_item 23 = .ok (.lload_n 1, 1) := by decide +kernel
theorem d_GT_item_24 : decode b_GT_item 24 = .ok (.invokevirtual 63, 3) := by decide +kernel
theorem d_GT_item_27 : decode b_GT_item 27 = .ok (.ifCond .ne 6, 3) := by decide +kernel
theorem d_GT_item_30 : decode b_GT_item 30 = .ok (.bipush (-102), 2) := by decide +kernel
theorem d_GT_item_32 : decode b_GT_item 32 = .ok (.ireturn, 1) := by decide +kernel
theorem d_GT_item_33 : decode b_GT_item 33 = .ok (.aload_n 0, 1) := by decide +kernel
theorem d_GT_item_34 : decode b_GT_item 34 = .ok (.getfield 12, 3) := by decide +kernel
theorem d_GT_item_37 : decode b_GT_item 37 = .ok (.invokevirtual 66, 3) := by decide +kernel
theorem d_GT_item_40 : decode b_GT_item 40 = .ok (.ifCond .eq 6, 3) := by decide +kernel
theorem d_GT_item_43 : decode b_GT_item 43 = .ok (.bipush (-104), 2) := by decide +kernel
theorem d_GT_item_45 : decode b_GT_item 45 = .ok (.ireturn, 1) := by decide +kernel
theorem d_GT_item_46 : decode b_GT_item 46 = .ok (.new 70, 3) := by decide +kernel
theorem d_GT_item_49 : decode b_GT_item 49 = .ok (.dup, 1) := by decide +kernel
theorem d_GT_item_50 : decode b_GT_item 50 = .ok (.aload_n 0, 1) := by decide +kernel
theorem d_GT_item_51 : decode b_GT_item 51 = .ok (.getfield 12, 3) := by decide +kernel
theorem d_GT_item_54 : decode b_GT_item 54 = .ok (.getfield 72, 3) := by decide +kernel
theorem d_GT_item_57 : decode b_GT_item 57 = .ok (.iconst 1, 1) := by decide +kernel
theorem d_GT_item_58 : decode b_GT_item 58 = .ok (.iadd, 1) := by decide +kernel
theorem d_GT_item_59 : decode b_GT_item 59 = .ok (.lload_n 1, 1) := by decide +kernel
theorem d_GT_item_60 : decode b_GT_item 60 = .ok (.lload_n 3, 1) := by decide +kernel
theorem d_GT_item_61 : decode b_GT_item 61 = .ok (.invokespecial 75, 3) := by decide +kernel
theorem d_GT_item_64 : decode b_GT_item 64 = .ok (.astore 5, 2) := by decide +kernel
theorem d_GT_item_66 : decode b_GT_item 66 = .ok (.aload_n 0, 1) := by decide +kernel
theorem d_GT_item_67 : decode b_GT_item 67 = .ok (.getfield 12, 3) := by decide +kernel
theorem d_GT_item_70 : decode b_GT_item 70 = .ok (.aload 5, 2) := by decide +kernel
theorem d_GT_item_72 : decode b_GT_item 72 = .ok (.invokevirtual 78, 3) := by decide +kernel
theorem d_GT_item_75 : decode b_GT_item 75 = .ok (.aload_n 0, 1) := by decide +kernel
theorem d_GT_item_76 : decode b_GT_item 76 = .ok (.getfield 47, 3) := by decide +kernel
theorem d_GT_item_79 : decode b_GT_item 79 = .ok (.iconst 0, 1) := by decide +kernel
theorem d_GT_item_80 : decode b_GT_item 80 = .ok (.aaload, 1) := by decide +kernel
theorem d_GT_item_81 : decode b_GT_item 81 = .ok (.aload 5, 2) := by decide +kernel
theorem d_GT_item_83 : decode b_GT_item 83 = .ok (.invokevirtual 82, 3) := by decide +kernel
theorem d_GT_item_86 : decode b_GT_item 86 = .ok (.aload 5, 2) := by decide +kernel
theorem d_GT_item_88 : decode b_GT_item 88 = .ok (.getfield 85, 3) := by decide +kernel
theorem d_GT_item_91 : decode b_GT_item 91 = .ok (.ireturn, 1) := by decide +kernel
theorem d_GT_order_0 : decode b_GT_order 0 = .ok (.aload_n 0, 1) := by decide +kernel
theorem d_GT_order_1 : decode b_GT_order 1 = .ok (.iload_n 1, 1) := by decide +kernel
theorem d_GT_order_2 : decode b_GT_order 2 = .ok (.invokevirtual 88, 3) := by decide +kernel
theorem d_GT_order_5 : decode b_GT_order 5 = .ok (.astore 5, 2) := by decide +kernel
theorem d_GT_order_7 : decode b_GT_order 7 = .ok (.aload 5, 2) := by decide +kernel
theorem d_GT_order_9 : decode b_GT_order 9 = .ok (.ifnull 11, 3) := by decide +kernel
theorem d_GT_order_12 : decode b_GT_order 12 = .ok (.aload_n 0, 1) := by decide +kernel
theorem d_GT_order_13 : decode b_GT_order 13 = .ok (.iload_n 2, 1) := by decide +kernel
theorem d_GT_order_14 : decode b_GT_order 14 = .ok (.invokevirtual 92, 3) := by decide +kernel
theorem d_GT_order_17 : decode b_GT_order 17 = .ok (.ifnonnull 6, 3) := by decide +kernel
theorem d_GT_order_20 : decode b_GT_order 20 = .ok (.bipush (-101), 2) := by decide +kernel
theorem d_GT_order_22 : decode b_GT_order 22 = .ok (.ireturn, 1) := by decide +kernel
theorem d_GT_order_23 : decode b_GT_order 23 = .ok (.aload_n 0, 1) := by decide +kernel
theorem d_GT_order_24 : decode b_GT_order 24 = .ok (.lload_n 3, 1) := by decide +kernel
theorem d_GT_order_25 : decode b_GT_order 25 = .ok (.invokevirtual 59, 3) := by decide +kernel
theorem d_GT_order_28 : decode b_GT_order 28 = .ok (.ifCond .ne 6, 3) := by decide +kernel
theorem d_GT_order_31 : decode b_GT_order 31 = .ok (.bipush (-102), 2) := by decide +kernel
theorem d_GT_order_33 : decode b_GT_order 33 = .ok (.ireturn, 1) := by decide +kernel
theorem d_GT_order_34 : decode b_GT_order 34 = .ok (.aload_n 0, 1) := by decide +kernel
theorem d_GT_order_35 : decode b_GT_order 35 = .ok (.lload_n 3, 1) := by decide +kernel
theorem d_GT_order_36 : decode b_GT_order 36 = .ok (.invokevirtual 96, 3) := by decide +kernel
theorem d_GT_order_39 : decode b_GT_order 39 = .ok (.aload 5, 2) := by decide +kernel
theorem d_GT_order_41 : decode b_GT_order 41 = .ok (.getfield 100, 3) := by decide +kernel
theorem d_GT_order_44 : decode b_GT_order 44 = .ok (.iconst (-1), 1) := by decide +kernel
theorem d_GT_order_45 : decode b_GT_order 45 = .ok (.if_icmp .eq 5, 3) := by decide +kernel
theorem d_GT_order_48 : decode b_GT_order 48 = .ok (.iconst 0, 1) := by decide +kernel
theorem d_GT_order_49 : decode b_GT_order 49 = .ok (.ireturn, 1) := by decide +kernel
theorem d_GT_order_50 : decode b_GT_order 50 = .ok (.aload 5, 2) := by decide +kernel
theorem d_GT_order_52 : decode b_GT_order 52 = .ok (.getfield 103, 3) := by decide +kernel
theorem d_GT_order_55 : decode b_GT_order 55 = .ok (.iconst (-1), 1) := by decide +kernel
theorem d_GT_order_56 : decode b_GT_order 56 = .ok (.if_icmp .eq 5, 3) := by decide +kernel
theorem d_GT_order_59 : decode b_GT_order 59 = .ok (.iconst 2, 1) := by decide +kernel
theorem d_GT_order_60 : decode b_GT_order 60 = .ok (.ireturn, 1) := by decide +kernel
theorem d_GT_order_61 : decode b_GT_order 61 = .ok (.lload_n 3, 1) := by decide +kernel
theorem d_GT_order_62 : decode b_GT_order 62 = .ok (.ldc2_w 106, 3) := by decide +kernel
theorem d_GT_order_65 : decode b_GT_order 65 = .ok (.ladd, 1) := by decide +kernel
theorem d_GT_order_66 : decode b_GT_order 66 = .ok (.aload 5, 2) := by decide +kernel
theorem d_GT_order_68 : decode b_GT_order 68 = .ok (.iload_n 2, 1) := by decide +kernel
theorem d_GT_order_69 : decode b_GT_order 69 = .ok (.invokevirtual 108, 3) := by decide +kernel
theorem d_GT_order_72 : decode b_GT_order 72 = .ok (.lsub, 1) := by decide +kernel
theorem d_GT_order_73 : decode b_GT_order 73 = .ok (.lstore 6, 2) := by decide +kernel
theorem d_GT_order_75 : decode b_GT_order 75 = .ok (.lload 6, 2) := by decide +kernel
theorem d_GT_order_77 : decode b_GT_order 77 = .ok (.lconst 0, 1) := by decide +kernel
theorem d_GT_order_78 : decode b_GT_order 78 = .ok (.lcmp, 1) := by decide +kernel
theorem d_GT_order_79 : decode b_GT_order 79 = .ok (.ifCond .le 13, 3) := by decide +kernel
theorem d_GT_order_82 : decode b_GT_order 82 = .ok (.aload 5, 2) := by decide +kernel
theorem d_GT_order_84 : decode b_GT_order 84 = .ok (.lload 6, 2) := by decide +kernel
theorem d_GT_order_86 : decode b_GT_order 86 = .ok (.l2i, 1) := by decide +kernel
theorem d_GT_order_87 : decode b_GT_order 87 = .ok (.putfield 112, 3) := by decide +kernel
theorem d_GT_order_90 : decode b_GT_order 90 = .ok (.iconst 0, 1) := by decide +kernel
theorem d_GT_order_91 : decode b_GT_order 91 = .ok (.ireturn, 1) := by decide +kernel
theorem d_GT_order_92 : decode b_GT_order 92 = .ok (.aload 5, 2) := by decide +kernel
theorem d_GT_order_94 : decode b_GT_order 94 = .ok (.iload_n 2, 1) := by decide +kernel
theorem d_GT_order_95 : decode b_GT_order 95 = .ok (.putfield 103, 3) := by decide +kernel
theorem d_GT_order_98 : decode b_GT_order 98 = .ok (.iconst 1, 1) := by decide +kernel
theorem d_GT_order_99 : decode b_GT_order 99 = .ok (.ireturn, 1) := by decide +kernel
theorem d_GT_step_0 : decode b_GT_step 0 = .ok (.aload_n 0, 1) := by decide +kernel
theorem d_GT_step_1 : decode b_GT_step 1 = .ok (.lload_n 1, 1) := by decide +kernel
theorem d_GT_step_2 : decode b_GT_step 2 = .ok (.invokevirtual 59, 3) := by decide +kernel
theorem d_GT_step_5 : decode b_GT_step 5 = .ok (.ifCond .ne 6, 3) := by decide +kernel
theorem d_GT_step_8 : decode b_GT_step 8 = .ok (.bipush (-102), 2) := by decide +kernel
theorem d_GT_step_10 : decode b_GT_step 10 = .ok (.ireturn, 1) := by decide +kernel
theorem d_GT_step_11 : decode b_GT_step 11 = .ok (.aload_n 0, 1) := by decide +kernel
theorem d_GT_step_12 : decode b_GT_step 12 = .ok (.lload_n 1, 1) := by decide +kernel
theorem d_GT_step_13 : decode b_GT_step 13 = .ok (.invokevirtual 96, 3) := by decide +kernel
theorem d_GT_step_16 : decode b_GT_step 16 = .ok (.aload_n 0, 1) := by decide +kernel
theorem d_GT_step_17 : decode b_GT_step 17 = .ok (.getfield 16, 3) := by decide +kernel
theorem d_GT_step_20 : decode b_GT_step 20 = .ok (.getfield 72, 3) := by decide +kernel
theorem d_GT_step_23 : decode b_GT_step 23 = .ok (.aload_n 0, 1) := by decide +kernel
theorem d_GT_step_24 : decode b_GT_step 24 = .ok (.getfield 22, 3) := by decide +kernel
theorem d_GT_step_27 : decode b_GT_step 27 = .ok (.isub, 1) := by decide +kernel
theorem d_GT_step_28 : decode b_GT_step 28 = .ok (.istore_n 3, 1) := by decide +kernel
theorem d_GT_step_29 : decode b_GT_step 29 = .ok (.aload_n 0, 1) := by decide +kernel
theorem d_GT_step_30 : decode b_GT_step 30 = .ok (.aload_n 0, 1) := by decide +kernel
theorem d_GT_step_31 : decode b_GT_step 31 = .ok (.getfield 16, 3) := by decide +kernel
theorem d_GT_step_34 : decode b_GT_step 34 = .ok (.getfield 72, 3) := by decide +kernel
theorem d_GT_step_37 : decode b_GT_step 37 = .ok (.putfield 22, 3) := by decide +kernel
theorem d_GT_step_40 : decode b_GT_step 40 = .ok (.iload_n 3, 1) := by decide +kernel
theorem d_GT_step_41 : decode b_GT_step 41 = .ok (.ireturn, 1) := by decide +kernel
theorem d_GT_out_0 : decode b_GT_out 0 = .ok (.aload_n 0, 1) := by decide +kernel
theorem d_GT_out_1 : decode b_GT_out 1 = .ok (.getfield 16, 3) := by decide +kernel
theorem d_GT_out_4 : decode b_GT_out 4 = .ok (.iload_n 1, 1) := by decide +kernel
theorem d_GT_out_5 : decode b_GT_out 5 = .ok (.invokevirtual 115, 3) := by decide +kernel
theorem d_GT_out_8 : decode b_GT_out 8 = .ok (.astore_n 3, 1) := by decide +kernel
theorem d_GT_out_9 : decode b_GT_out 9 = .ok (.aload_n 3, 1) := by decide +kernel
theorem d_GT_out_10 : decode b_GT_out 10 = .ok (.ifnonnull 5, 3) := by decide +kernel
theorem d_GT_out_13 : decode b_GT_out 13 = .ok (.iconst (-1), 1) := by decide +kernel
theorem d_GT_out_14 : decode b_GT_out 14 = .ok (.ireturn, 1) := by decide +kernel
theorem d_GT_out_15 : decode b_GT_out 15 = .ok (.iload_n 2, 1) := by decide +kernel
theorem d_GT_out_16 : decode b_GT_out 16 = .ok (.tableswitch 48 0 2 #[28, 33, 38], 28) := by decide +kernel
theorem d_GT_out_44 : decode b_GT_out 44 = .ok (.aload_n 3, 1) := by decide +kernel
theorem d_GT_out_45 : decode b_GT_out 45 = .ok (.getfield 85, 3) := by decide +kernel
theorem d_GT_out_48 : decode b_GT_out 48 = .ok (.ireturn, 1) := by decide +kernel
theorem d_GT_out_49 : decode b_GT_out 49 = .ok (.aload_n 3, 1) := by decide +kernel
theorem d_GT_out_50 : decode b_GT_out 50 = .ok (.getfield 100, 3) := by decide +kernel
theorem d_GT_out_53 : decode b_GT_out 53 = .ok (.ireturn, 1) := by decide +kernel
theorem d_GT_out_54 : decode b_GT_out 54 = .ok (.aload_n 3, 1) := by decide +kernel
theorem d_GT_out_55 : decode b_GT_out 55 = .ok (.aload_n 3, 1) := by decide +kernel
theorem d_GT_out_56 : decode b_GT_out 56 = .ok (.getfield 100, 3) := by decide +kernel
theorem d_GT_out_59 : decode b_GT_out 59 = .ok (.invokevirtual 108, 3) := by decide +kernel
theorem d_GT_out_62 : decode b_GT_out 62 = .ok (.l2i, 1) := by decide +kernel
theorem d_GT_out_63 : decode b_GT_out 63 = .ok (.ireturn, 1) := by decide +kernel
theorem d_GT_out_64 : decode b_GT_out 64 = .ok (.iconst (-1), 1) := by decide +kernel
theorem d_GT_out_65 : decode b_GT_out 65 = .ok (.ireturn, 1) := by decide +kernel
theorem d_GT_height_0 : decode b_GT_height 0 = .ok (.aload_n 0, 1) := by decide +kernel
theorem d_GT_height_1 : decode b_GT_height 1 = .ok (.iload_n 1, 1) := by decide +kernel
theorem d_GT_height_2 : decode b_GT_height 2 = .ok (.invokevirtual 92, 3) := by decide +kernel
theorem d_GT_height_5 : decode b_GT_height 5 = .ok (.astore_n 3, 1) := by decide +kernel
theorem d_GT_height_6 : decode b_GT_height 6 = .ok (.aload_n 3, 1) := by decide +kernel
theorem d_GT_height_7 : decode b_GT_height 7 = .ok (.ifnonnull 6, 3) := by decide +kernel
theorem d_GT_height_10 : decode b_GT_height 10 = .ok (.bipush (-101), 2) := by decide +kernel
theorem d_GT_height_12 : decode b_GT_height 12 = .ok (.ireturn, 1) := by decide +kernel
theorem d_GT_height_13 : decode b_GT_height 13 = .ok (.iload_n 2, 1) := by decide +kernel
theorem d_GT_height_14 : decode b_GT_height 14 = .ok (.iconst 1, 1) := by decide +kernel
theorem d_GT_height_15 : decode b_GT_height 15 = .ok (.if_icmp .lt 10, 3) := by decide +kernel
theorem d_GT_height_18 : decode b_GT_height 18 = .ok (.iload_n 2, 1) := by decide +kernel
theorem d_GT_height_19 : decode b_GT_height 19 = .ok (.sipush 1000, 3) := by decide +kernel
theorem d_GT_height_22 : decode b_GT_height 22 = .ok (.if_icmp .le 6, 3) := by decide +kernel
theorem d_GT_height_25 : decode b_GT_height 25 = .ok (.bipush (-102), 2) := by decide +kernel
theorem d_GT_height_27 : decode b_GT_height 27 = .ok (.ireturn, 1) := by decide +kernel
theorem d_GT_height_28 : decode b_GT_height 28 = .ok (.aload_n 3, 1) := by decide +kernel
theorem d_GT_height_29 : decode b_GT_height 29 = .ok (.getfield 118, 3) := by decide +kernel
theorem d_GT_height_32 : decode b_GT_height 32 = .ok (.istore 4, 2) := by decide +kernel
theorem d_GT_height_34 : decode b_GT_height 34 = .ok (.aload_n 3, 1) := by decide +kernel
theorem d_GT_height_35 : decode b_GT_height 35 = .ok (.iload_n 2, 1) := by decide +kernel
theorem d_GT_height_36 : decode b_GT_height 36 = .ok (.putfield 118, 3) := by decide +kernel
theorem d_GT_height_39 : decode b_GT_height 39 = .ok (.iload 4, 2) := by decide +kernel
theorem d_GT_height_41 : decode b_GT_height 41 = .ok (.ireturn, 1) := by decide +kernel
theorem d_GT_swap_0 : decode b_GT_swap 0 = .ok (.aload_n 0, 1) := by decide +kernel
theorem d_GT_swap_1 : decode b_GT_swap 1 = .ok (.iload_n 1, 1) := by decide +kernel
theorem d_GT_swap_2 : decode b_GT_swap 2 = .ok (.invokevirtual 92, 3) := by decide +kernel
theorem d_GT_swap_5 : decode b_GT_swap 5 = .ok (.astore_n 2, 1) := by decide +kernel
theorem d_GT_swap_6 : decode b_GT_swap 6 = .ok (.aload_n 2, 1) := by decide +kernel
theorem d_GT_swap_7 : decode b_GT_swap 7 = .ok (.ifnonnull 6, 3) := by decide +kernel
theorem d_GT_swap_10 : decode b_GT_swap 10 = .ok (.bipush (-101), 2) := by decide +kernel
theorem d_GT_swap_12 : decode b_GT_swap 12 = .ok (.ireturn, 1) := by decide +kernel
theorem d_GT_swap_13 : decode b_GT_swap 13 = .ok (.aload_n 2, 1) := by decide +kernel
theorem d_GT_swap_14 : decode b_GT_swap 14 = .ok (.getfield 121, 3) := by decide +kernel
theorem d_GT_swap_17 : decode b_GT_swap 17 = .ok (.istore_n 3, 1) := by decide +kernel
theorem d_GT_swap_18 : decode b_GT_swap 18 = .ok (.aload_n 2, 1) := by decide +kernel
theorem d_GT_swap_19 : decode b_GT_swap 19 = .ok (.iconst 0, 1) := by decide +kernel
theorem d_GT_swap_20 : decode b_GT_swap 20 = .ok (.putfield 121, 3) := by decide +kernel
theorem d_GT_swap_23 : decode b_GT_swap 23 = .ok (.iload_n 3, 1) := by decide +kernel
theorem d_GT_swap_24 : decode b_GT_swap 24 = .ok (.ireturn, 1) := by decide +kernel
theorem d_GT_stuck_0 : decode b_GT_stuck 0 = .ok (.aload_n 0, 1) := by decide +kernel
theorem d_GT_stuck_1 : decode b_GT_stuck 1 = .ok (.iload_n 1, 1) := by decide +kernel
theorem d_GT_stuck_2 : decode b_GT_stuck 2 = .ok (.invokevirtual 92, 3) := by decide +kernel
theorem d_GT_stuck_5 : decode b_GT_stuck 5 = .ok (.astore_n 3, 1) := by decide +kernel
theorem d_GT_stuck_6 : decode b_GT_stuck 6 = .ok (.aload_n 3, 1) := by decide +kernel
theorem d_GT_stuck_7 : decode b_GT_stuck 7 = .ok (.ifnonnull 6, 3) := by decide +kernel
theorem d_GT_stuck_10 : decode b_GT_stuck 10 = .ok (.bipush (-101), 2) := by decide +kernel
theorem d_GT_stuck_12 : decode b_GT_stuck 12 = .ok (.ireturn, 1) := by decide +kernel
theorem d_GT_stuck_13 : decode b_GT_stuck 13 = .ok (.aload_n 3, 1) := by decide +kernel
theorem d_GT_stuck_14 : decode b_GT_stuck 14 = .ok (.getfield 124, 3) := by decide +kernel
theorem d_GT_stuck_17 : decode b_GT_stuck 17 = .ok (.iload_n 2, 1) := by decide +kernel
theorem d_GT_stuck_18 : decode b_GT_stuck 18 = .ok (.if_icmp .ne 5, 3) := by decide +kernel
theorem d_GT_stuck_21 : decode b_GT_stuck 21 = .ok (.iconst 0, 1) := by decide +kernel
theorem d_GT_stuck_22 : decode b_GT_stuck 22 = .ok (.ireturn, 1) := by decide +kernel
theorem d_GT_stuck_23 : decode b_GT_stuck 23 = .ok (.aload_n 3, 1) := by decide +kernel
theorem d_GT_stuck_24 : decode b_GT_stuck 24 = .ok (.iload_n 2, 1) := by decide +kernel
theorem d_GT_stuck_25 : decode b_GT_stuck 25 = .ok (.putfield 124, 3) := by decide +kernel
theorem d_GT_stuck_28 : decode b_GT_stuck 28 = .ok (.iconst 1, 1) := by decide +kernel
theorem d_GT_stuck_29 : decode b_GT_stuck 29 = .ok (.ireturn, 1) := by decide +kernel
theorem d_GT_late_0 : decode b_GT_late 0 = .ok (.aload_n 0, 1) := by decide +kernel
theorem d_GT_late_1 : decode b_GT_late 1 = .ok (.iload_n 1, 1) := by decide +kernel
theorem d_GT_late_2 : decode b_GT_late 2 = .ok (.invokevirtual 88, 3) := by decide +kernel
theorem d_GT_late_5 : decode b_GT_late 5 = .ok (.astore_n 2, 1) := by decide +kernel
theorem d_GT_late_6 : decode b_GT_late 6 = .ok (.aload_n 2, 1) := by decide +kernel
theorem d_GT_late_7 : decode b_GT_late 7 = .ok (.ifnonnull 8, 3) := by decide +kernel
theorem d_GT_late_10 : decode b_GT_late 10 = .ok (.bipush (-101), 2) := by decide +kernel
theorem d_GT_late_12 : decode b_GT_late 12 = .ok (.goto 7, 3) := by decide +kernel
theorem d_GT_late_15 : decode b_GT_late 15 = .ok (.aload_n 2, 1) := by decide +kernel
theorem d_GT_late_16 : decode b_GT_late 16 = .ok (.getfield 112, 3) := by decide +kernel
theorem d_GT_late_19 : decode b_GT_late 19 = .ok (.ireturn, 1) := by decide +kernel
theorem d_GT_count_0 : decode b_GT_count 0 = .ok (.iload_n 1, 1) := by decide +kernel
theorem d_GT_count_1 : decode b_GT_count 1 = .ok (.ifCond .lt 12, 3) := by decide +kernel
theorem d_GT_count_4 : decode b_GT_count 4 = .ok (.iload_n 1, 1) := by decide +kernel
theorem d_GT_count_5 : decode b_GT_count 5 = .ok (.aload_n 0, 1) := by decide +kernel
theorem d_GT_count_6 : decode b_GT_count 6 = .ok (.getfield 51, 3) := by decide +kernel
theorem d_GT_count_9 : decode b_GT_count 9 = .ok (.arraylength, 1) := by decide +kernel
theorem d_GT_count_10 : decode b_GT_count 10 = .ok (.if_icmp .lt 8, 3) := by decide +kernel
theorem d_GT_count_13 : decode b_GT_count 13 = .ok (.bipush (-101), 2) := by decide +kernel
theorem d_GT_count_15 : decode b_GT_count 15 = .ok (.goto 9, 3) := by decide +kernel
theorem d_GT_count_18 : decode b_GT_count 18 = .ok (.aload_n 0, 1) := by decide +kernel
theorem d_GT_count_19 : decode b_GT_count 19 = .ok (.getfield 51, 3) := by decide +kernel
theorem d_GT_count_22 : decode b_GT_count 22 = .ok (.iload_n 1, 1) := by decide +kernel
theorem d_GT_count_23 : decode b_GT_count 23 = .ok (.iaload, 1) := by decide +kernel
theorem d_GT_count_24 : decode b_GT_count 24 = .ok (.ireturn, 1) := by decide +kernel
theorem d_GT_verify_0 : decode b_GT_verify 0 = .ok (.aload_n 0, 1) := by decide +kernel
theorem d_GT_verify_1 : decode b_GT_verify 1 = .ok (.getfield 19, 3) := by decide +kernel
theorem d_GT_verify_4 : decode b_GT_verify 4 = .ok (.iload_n 1, 1) := by decide +kernel
theorem d_GT_verify_5 : decode b_GT_verify 5 = .ok (.invokevirtual 115, 3) := by decide +kernel
theorem d_GT_verify_8 : decode b_GT_verify 8 = .ok (.astore_n 3, 1) := by decide +kernel
theorem d_GT_verify_9 : decode b_GT_verify 9 = .ok (.aload_n 3, 1) := by decide +kernel
theorem d_GT_verify_10 : decode b_GT_verify 10 = .ok (.ifnonnull 5, 3) := by decide +kernel
theorem d_GT_verify_13 : decode b_GT_verify 13 = .ok (.iconst (-1), 1) := by decide +kernel
theorem d_GT_verify_14 : decode b_GT_verify 14 = .ok (.ireturn, 1) := by decide +kernel
theorem d_GT_verify_15 : decode b_GT_verify 15 = .ok (.iload_n 2, 1) := by decide +kernel
theorem d_GT_verify_16 : decode b_GT_verify 16 = .ok (.tableswitch 43 0 2 #[28, 33, 38], 28) := by decide +kernel
theorem d_GT_verify_44 : decode b_GT_verify 44 = .ok (.aload_n 3, 1) := by decide +kernel
theorem d_GT_verify_45 : decode b_GT_verify 45 = .ok (.getfield 85, 3) := by decide +kernel
theorem d_GT_verify_48 : decode b_GT_verify 48 = .ok (.ireturn, 1) := by decide +kernel
theorem d_GT_verify_49 : decode b_GT_verify 49 = .ok (.aload_n 3, 1) := by decide +kernel
theorem d_GT_verify_50 : decode b_GT_verify 50 = .ok (.getfield 103, 3) := by decide +kernel
theorem d_GT_verify_53 : decode b_GT_verify 53 = .ok (.ireturn, 1) := by decide +kernel
theorem d_GT_verify_54 : decode b_GT_verify 54 = .ok (.aload_n 3, 1) := by decide +kernel
theorem d_GT_verify_55 : decode b_GT_verify 55 = .ok (.getfield 100, 3) := by decide +kernel
theorem d_GT_verify_58 : decode b_GT_verify 58 = .ok (.ireturn, 1) := by decide +kernel
theorem d_GT_verify_59 : decode b_GT_verify 59 = .ok (.iconst (-1), 1) := by decide +kernel
theorem d_GT_verify_60 : decode b_GT_verify 60 = .ok (.ireturn, 1) := by decide +kernel
theorem d_GT_isTimeAhead_0 : decode b_GT_isTimeAhead 0 = .ok (.lload_n 1, 1) := by decide +kernel
theorem d_GT_isTimeAhead_1 : decode b_GT_isTimeAhead 1 = .ok (.aload_n 0, 1) := by decide +kernel
theorem d_GT_isTimeAhead_2 : decode b_GT_isTimeAhead 2 = .ok (.getfield 26, 3) := by decide +kernel
theorem d_GT_isTimeAhead_5 : decode b_GT_isTimeAhead 5 = .ok (.lcmp, 1) := by decide +kernel
theorem d_GT_isTimeAhead_6 : decode b_GT_isTimeAhead 6 = .ok (.ifCond .lt 15, 3) := by decide +kernel
theorem d_GT_isTimeAhead_9 : decode b_GT_isTimeAhead 9 = .ok (.lload_n 1, 1) := by decide +kernel
theorem d_GT_isTimeAhead_10 : decode b_GT_isTimeAhead 10 = .ok (.ldc2_w 128, 3) := by decide +kernel
theorem d_GT_isTimeAhead_13 : decode b_GT_isTimeAhead 13 = .ok (.lcmp, 1) := by decide +kernel
theorem d_GT_isTimeAhead_14 : decode b_GT_isTimeAhead 14 = .ok (.ifCond .gt 7, 3) := by decide +kernel
theorem d_GT_isTimeAhead_17 : decode b_GT_isTimeAhead 17 = .ok (.iconst 1, 1) := by decide +kernel
theorem d_GT_isTimeAhead_18 : decode b_GT_isTimeAhead 18 = .ok (.goto 4, 3) := by decide +kernel
theorem d_GT_isTimeAhead_21 : decode b_GT_isTimeAhead 21 = .ok (.iconst 0, 1) := by decide +kernel
theorem d_GT_isTimeAhead_22 : decode b_GT_isTimeAhead 22 = .ok (.ireturn, 1) := by decide +kernel
theorem d_GT_isBehindLastItem_0 : decode b_GT_isBehindLastItem 0 = .ok (.aload_n 0, 1) := by decide +kernel
theorem d_GT_isBehindLastItem_1 : decode b_GT_isBehindLastItem 1 = .ok (.getfield 12, 3) := by decide +kernel
theorem d_GT_isBehindLastItem_4 : decode b_GT_isBehindLastItem 4 = .ok (.aload_n 0, 1) := by decide +kernel
theorem d_GT_isBehindLastItem_5 : decode b_GT_isBehindLastItem 5 = .ok (.getfield 12, 3) := by decide +kernel
theorem d_GT_isBehindLastItem_8 : decode b_GT_isBehindLastItem 8 = .ok (.getfield 72, 3) := by decide +kernel
theorem d_GT_isBehindLastItem_11 : decode b_GT_isBehindLastItem 11 = .ok (.iconst 1, 1) := by decide +kernel
theorem d_GT_isBehindLastItem_12 : decode b_GT_isBehindLastItem 12 = .ok (.isub, 1) := by decide +kernel
theorem d_GT_isBehindLastItem_13 : decode b_GT_isBehindLastItem 13 = .ok (.invokevirtual 115, 3) := by decide +kernel
theorem d_GT_isBehindLastItem_16 : decode b_GT_isBehindLastItem 16 = .ok (.astore_n 3, 1) := by decide +kernel
theorem d_GT_isBehindLastItem_17 : decode b_GT_isBehindLastItem 17 = .ok (.aload_n 3, 1) := by decide +kernel
theorem d_GT_isBehindLastItem_18 : decode b_GT_isBehindLastItem 18 = .ok (.ifnull 21, 3) := by decide +kernel
theorem d_GT_isBehindLastItem_21 : decode b_GT_isBehindLastItem 21 = .ok (.lload_n 1, 1) := by decide +kernel
theorem d_GT_isBehindLastItem_22 : decode b_GT_isBehindLastItem 22 = .ok (.aload_n 3, 1) := by decide +kernel
theorem d_GT_isBehindLastItem_23 : decode b_GT_isBehindLastItem 23 = .ok (.getfield 130, 3) := by decide +kernel
theorem d_GT_isBehindLastItem_26 : decode b_GT_isBehindLastItem 26 = .ok (.aload_n 3, 1) := by decide +kernel
theorem d_GT_isBehindLastItem_27 : decode b_GT_isBehindLastItem 27 = .ok (.getfield 133, 3) := by decide +kernel
theorem d_GT_isBehindLastItem_30 : decode b_GT_isBehindLastItem 30 = .ok (.ladd, 1) := by decide +kernel
theorem d_GT_isBehindLastItem_31 : decode b_GT_isBehindLastItem 31 = .ok (.ldc2_w 136, 3) := by decide +kernel
theorem d_GT_isBehindLastItem_34 : decode b_GT_isBehindLastItem 34 = .ok (.ladd, 1) := by decide +kernel
theorem d_GT_isBehindLastItem_35 : decode b_GT_isBehindLastItem 35 = .ok (.lcmp, 1) := by decide +kernel
theorem d_GT_isBehindLastItem_36 : decode b_GT_isBehindLastItem 36 = .ok (.ifCond .lt 7, 3) := by decide +kernel
theorem d_GT_isBehindLastItem_39 : decode b_GT_isBehindLastItem 39 = .ok (.iconst 1, 1) := by decide +kernel
theorem d_GT_isBehindLastItem_40 : decode b_GT_isBehindLastItem 40 = .ok (.goto 4, 3) := by decide +kernel
theorem d_GT_isBehindLastItem_43 : decode b_GT_isBehindLastItem 43 = .ok (.iconst 0, 1) := by decide +kernel
theorem d_GT_isBehindLastItem_44 : decode b_GT_isBehindLastItem 44 = .ok (.ireturn, 1) := by decide +kernel
theorem d_GT_itemOf_0 : decode b_GT_itemOf 0 = .ok (.iload_n 1, 1) := by decide +kernel
theorem d_GT_itemOf_1 : decode b_GT_itemOf 1 = .ok (.iconst 1, 1) := by decide +kernel
theorem d_GT_itemOf_2 : decode b_GT_itemOf 2 = .ok (.if_icmp .ge 7, 3) := by decide +kernel
theorem d_GT_itemOf_5 : decode b_GT_itemOf 5 = .ok (.aconst_null, 1) := by decide +kernel
theorem d_GT_itemOf_6 : decode b_GT_itemOf 6 = .ok (.goto 13, 3) := by decide +kernel
theorem d_GT_itemOf_9 : decode b_GT_itemOf 9 = .ok (.aload_n 0, 1) := by decide +kernel
theorem d_GT_itemOf_10 : decode b_GT_itemOf 10 = .ok (.getfield 12, 3) := by decide +kernel
theorem d_GT_itemOf_13 : decode b_GT_itemOf 13 = .ok (.iload_n 1, 1) := by decide +kernel
theorem d_GT_itemOf_14 : decode b_GT_itemOf 14 = .ok (.iconst 1, 1) := by decide +kernel
theorem d_GT_itemOf_15 : decode b_GT_itemOf 15 = .ok (.isub, 1) := by decide +kernel
theorem d_GT_itemOf_16 : decode b_GT_itemOf 16 = .ok (.invokevirtual 115, 3) := by decide +kernel
theorem d_GT_itemOf_19 : decode b_GT_itemOf 19 = .ok (.areturn, 1) := by decide +kernel
theorem d_GT_gateOf_0 : decode b_GT_gateOf 0 = .ok (.iload_n 1, 1) := by decide +kernel
theorem d_GT_gateOf_1 : decode b_GT_gateOf 1 = .ok (.ifCond .lt 12, 3) := by decide +kernel
theorem d_GT_gateOf_4 : decode b_GT_gateOf 4 = .ok (.iload_n 1, 1) := by decide +kernel
theorem d_GT_gateOf_5 : decode b_GT_gateOf 5 = .ok (.aload_n 0, 1) := by decide +kernel
theorem d_GT_gateOf_6 : decode b_GT_gateOf 6 = .ok (.getfield 41, 3) := by decide +kernel
theorem d_GT_gateOf_9 : decode b_GT_gateOf 9 = .ok (.arraylength, 1) := by decide +kernel
theorem d_GT_gateOf_10 : decode b_GT_gateOf 10 = .ok (.if_icmp .lt 7, 3) := by decide +kernel
theorem d_GT_gateOf_13 : decode b_GT_gateOf 13 = .ok (.aconst_null, 1) := by decide +kernel
theorem d_GT_gateOf_14 : decode b_GT_gateOf 14 = .ok (.goto 9, 3) := by decide +kernel
theorem d_GT_gateOf_17 : decode b_GT_gateOf 17 = .ok (.aload_n 0, 1) := by decide +kernel
theorem d_GT_gateOf_18 : decode b_GT_gateOf 18 = .ok (.getfield 41, 3) := by decide +kernel
theorem d_GT_gateOf_21 : decode b_GT_gateOf 21 = .ok (.iload_n 1, 1) := by decide +kernel
theorem d_GT_gateOf_22 : decode b_GT_gateOf 22 = .ok (.aaload, 1) := by decide +kernel
theorem d_GT_gateOf_23 : decode b_GT_gateOf 23 = .ok (.areturn, 1) := by decide +kernel
theorem d_GT_passTo_0 : decode b_GT_passTo 0 = .ok (.iconst 0, 1) := by decide +kernel
theorem d_GT_passTo_1 : decode b_GT_passTo 1 = .ok (.istore_n 3, 1) := by decide +kernel
theorem d_GT_passTo_2 : decode b_GT_passTo 2 = .ok (.iload_n 3, 1) := by decide +kernel
theorem d_GT_passTo_3 : decode b_GT_passTo 3 = .ok (.sipush 5200, 3) := by decide +kernel
theorem d_GT_passTo_6 : decode b_GT_passTo 6 = .ok (.if_icmp .ge 31, 3) := by decide +kernel
theorem d_GT_passTo_9 : decode b_GT_passTo 9 = .ok (.aload_n 0, 1) := by decide +kernel
theorem d_GT_passTo_10 : decode b_GT_passTo 10 = .ok (.lload_n 1, 1) := by decide +kernel
theorem d_GT_passTo_11 : decode b_GT_passTo 11 = .ok (.invokevirtual 138, 3) := by decide +kernel
theorem d_GT_passTo_14 : decode b_GT_passTo 14 = .ok (.istore 4, 2) := by decide +kernel
theorem d_GT_passTo_16 : decode b_GT_passTo 16 = .ok (.iload 4, 2) := by decide +kernel
theorem d_GT_passTo_18 : decode b_GT_passTo 18 = .ok (.iconst (-1), 1) := by decide +kernel
theorem d_GT_passTo_19 : decode b_GT_passTo 19 = .ok (.if_icmp .ne 6, 3) := by decide +kernel
theorem d_GT_passTo_22 : decode b_GT_passTo 22 = .ok (.goto 15, 3) := by decide +kernel
theorem d_GT_passTo_25 : decode b_GT_passTo 25 = .ok (.aload_n 0, 1) := by decide +kernel
theorem d_GT_passTo_26 : decode b_GT_passTo 26 = .ok (.iload 4, 2) := by decide +kernel
theorem d_GT_passTo_28 : decode b_GT_passTo 28 = .ok (.invokevirtual 142, 3) := by decide +kernel
theorem d_GT_passTo_31 : decode b_GT_passTo 31 = .ok (.iinc 3 1, 3) := by decide +kernel
theorem d_GT_passTo_34 : decode b_GT_passTo 34 = .ok (.goto (-32), 3) := by decide +kernel
theorem d_GT_passTo_37 : decode b_GT_passTo 37 = .ok (.aload_n 0, 1) := by decide +kernel
theorem d_GT_passTo_38 : decode b_GT_passTo 38 = .ok (.lload_n 1, 1) := by decide +kernel
theorem d_GT_passTo_39 : decode b_GT_passTo 39 = .ok (.putfield 26, 3) := by decide +kernel
theorem d_GT_passTo_42 : decode b_GT_passTo 42 = .ok (.return_, 1) := by decide +kernel
theorem d_GT_nextPlace_0 : decode b_GT_nextPlace 0 = .ok (.iconst (-1), 1) := by decide +kernel
theorem d_GT_nextPlace_1 : decode b_GT_nextPlace 1 = .ok (.istore_n 3, 1) := by decide +kernel
theorem d_GT_nextPlace_2 : decode b_GT_nextPlace 2 = .ok (.lload_n 1, 1) := by decide +kernel
theorem d_GT_nextPlace_3 : decode b_GT_nextPlace 3 = .ok (.lconst 1, 1) := by decide +kernel
theorem d_GT_nextPlace_4 : decode b_GT_nextPlace 4 = .ok (.ladd, 1) := by decide +kernel
theorem d_GT_nextPlace_5 : decode b_GT_nextPlace 5 = .ok (.lstore 4, 2) := by decide +kernel
theorem d_GT_nextPlace_7 : decode b_GT_nextPlace 7 = .ok (.aload_n 0, 1) := by decide +kernel
theorem d_GT_nextPlace_8 : decode b_GT_nextPlace 8 = .ok (.getfield 47, 3) := by decide +kernel
theorem d_GT_nextPlace_11 : decode b_GT_nextPlace 11 = .ok (.arraylength, 1) := by decide +kernel
theorem d_GT_nextPlace_12 : decode b_GT_nextPlace 12 = .ok (.iconst 1, 1) := by decide +kernel
theorem d_GT_nextPlace_13 : decode b_GT_nextPlace 13 = .ok (.isub, 1) := by decide +kernel
theorem d_GT_nextPlace_14 : decode b_GT_nextPlace 14 = .ok (.istore 6, 2) := by decide +kernel
theorem d_GT_nextPlace_16 : decode b_GT_nextPlace 16 = .ok (.iload 6, 2) := by decide +kernel
theorem d_GT_nextPlace_18 : decode b_GT_nextPlace 18 = .ok (.ifCond .lt 51, 3) := by decide +kernel
theorem d_GT_nextPlace_21 : decode b_GT_nextPlace 21 = .ok (.aload_n 0, 1) := by decide +kernel
theorem d_GT_nextPlace_22 : decode b_GT_nextPlace 22 = .ok (.getfield 47, 3) := by decide +kernel
theorem d_GT_nextPlace_25 : decode b_GT_nextPlace 25 = .ok (.iload 6, 2) := by decide +kernel
theorem d_GT_nextPlace_27 : decode b_GT_nextPlace 27 = .ok (.aaload, 1) := by decide +kernel
theorem d_GT_nextPlace_28 : decode b_GT_nextPlace 28 = .ok (.getfield 146, 3) := by decide +kernel
theorem d_GT_nextPlace_31 : decode b_GT_nextPlace 31 = .ok (.astore 7, 2) := by decide +kernel
theorem d_GT_nextPlace_33 : decode b_GT_nextPlace 33 = .ok (.aload 7, 2) := by decide +kernel
theorem d_GT_nextPlace_35 : decode b_GT_nextPlace 35 = .ok (.ifnull 28, 3) := by decide +kernel
theorem d_GT_nextPlace_38 : decode b_GT_nextPlace 38 = .ok (.aload 7, 2) := by decide +kernel
theorem d_GT_nextPlace_40 : decode b_GT_nextPlace 40 = .ok (.iload 6, 2) := by decide +kernel
theorem d_GT_nextPlace_42 : decode b_GT_nextPlace 42 = .ok (.invokevirtual 108, 3) := by decide +kernel
theorem d_GT_nextPlace_45 : decode b_GT_nextPlace 45 = .ok (.lload 4, 2) := by decide +kernel
theorem d_GT_nextPlace_47 : decode b_GT_nextPlace 47 = .ok (.lcmp, 1) := by decide +kernel
theorem d_GT_nextPlace_48 : decode b_GT_nextPlace 48 = .ok (.ifCond .ge 15, 3) := by decide +kernel
theorem d_GT_nextPlace_51 : decode b_GT_nextPlace 51 = .ok (.iload 6, 2) := by decide +kernel
theorem d_GT_nextPlace_53 : decode b_GT_nextPlace 53 = .ok (.istore_n 3, 1) := by decide +kernel
theorem d_GT_nextPlace_54 : decode b_GT_nextPlace 54 = .ok (.aload 7, 2) := by decide +kernel
theorem d_GT_nextPlace_56 : decode b_GT_nextPlace 56 = .ok (.iload 6, 2) := by decide +kernel
theorem d_GT_nextPlace_58 : decode b_GT_nextPlace 58 = .ok (.invokevirtual 108, 3) := by decide +kernel
theorem d_GT_nextPlace_61 : decode b_GT_nextPlace 61 = .ok (.lstore 4, 2) := by decide +kernel
theorem d_GT_nextPlace_63 : decode b_GT_nextPlace 63 = .ok (.iinc 6 (-1), 3) := by decide +kernel
theorem d_GT_nextPlace_66 : decode b_GT_nextPlace 66 = .ok (.goto (-50), 3) := by decide +kernel
theorem d_GT_nextPlace_69 : decode b_GT_nextPlace 69 = .ok (.iload_n 3, 1) := by decide +kernel
theorem d_GT_nextPlace_70 : decode b_GT_nextPlace 70 = .ok (.ireturn, 1) := by decide +kernel
theorem d_GT_moveAt_0 : decode b_GT_moveAt 0 = .ok (.iload_n 1, 1) := by decide +kernel
theorem d_GT_moveAt_1 : decode b_GT_moveAt 1 = .ok (.ifCond .lt 12, 3) := by decide +kernel
theorem d_GT_moveAt_4 : decode b_GT_moveAt 4 = .ok (.iload_n 1, 1) := by decide +kernel
theorem d_GT_moveAt_5 : decode b_GT_moveAt 5 = .ok (.aload_n 0, 1) := by decide +kernel
theorem d_GT_moveAt_6 : decode b_GT_moveAt 6 = .ok (.getfield 47, 3) := by decide +kernel
theorem d_GT_moveAt_9 : decode b_GT_moveAt 9 = .ok (.arraylength, 1) := by decide +kernel
theorem d_GT_moveAt_10 : decode b_GT_moveAt 10 = .ok (.if_icmp .lt 4, 3) := by decide +kernel
theorem d_GT_moveAt_13 : decode b_GT_moveAt 13 = .ok (.return_, 1) := by decide +kernel
theorem d_GT_moveAt_14 : decode b_GT_moveAt 14 = .ok (.aload_n 0, 1) := by decide +kernel
theorem d_GT_moveAt_15 : decode b_GT_moveAt 15 = .ok (.getfield 47, 3) := by decide +kernel
theorem d_GT_moveAt_18 : decode b_GT_moveAt 18 = .ok (.iload_n 1, 1) := by decide +kernel
theorem d_GT_moveAt_19 : decode b_GT_moveAt 19 = .ok (.aaload, 1) := by decide +kernel
theorem d_GT_moveAt_20 : decode b_GT_moveAt 20 = .ok (.invokevirtual 150, 3) := by decide +kernel
theorem d_GT_moveAt_23 : decode b_GT_moveAt 23 = .ok (.astore_n 2, 1) := by decide +kernel
theorem d_GT_moveAt_24 : decode b_GT_moveAt 24 = .ok (.aload_n 2, 1) := by decide +kernel
theorem d_GT_moveAt_25 : decode b_GT_moveAt 25 = .ok (.ifnonnull 4, 3) := by decide +kernel
theorem d_GT_moveAt_28 : decode b_GT_moveAt 28 = .ok (.return_, 1) := by decide +kernel
theorem d_GT_moveAt_29 : decode b_GT_moveAt 29 = .ok (.aload_n 0, 1) := by decide +kernel
theorem d_GT_moveAt_30 : decode b_GT_moveAt 30 = .ok (.iload_n 1, 1) := by decide +kernel
theorem d_GT_moveAt_31 : decode b_GT_moveAt 31 = .ok (.invokevirtual 92, 3) := by decide +kernel
theorem d_GT_moveAt_34 : decode b_GT_moveAt 34 = .ok (.astore_n 3, 1) := by decide +kernel
theorem d_GT_moveAt_35 : decode b_GT_moveAt 35 = .ok (.aload_n 3, 1) := by decide +kernel
theorem d_GT_moveAt_36 : decode b_GT_moveAt 36 = .ok (.ifnull 12, 3) := by decide +kernel
theorem d_GT_moveAt_39 : decode b_GT_moveAt 39 = .ok (.aload_n 3, 1) := by decide +kernel
theorem d_GT_moveAt_40 : decode b_GT_moveAt 40 = .ok (.aload_n 2, 1) := by decide +kernel
theorem d_GT_moveAt_41 : decode b_GT_moveAt 41 = .ok (.iload_n 1, 1) := by decide +kernel
theorem d_GT_moveAt_42 : decode b_GT_moveAt 42 = .ok (.invokevirtual 154, 3) := by decide +kernel
theorem d_GT_moveAt_45 : decode b_GT_moveAt 45 = .ok (.ifCond .eq 12, 3) := by decide +kernel
theorem d_GT_moveAt_48 : decode b_GT_moveAt 48 = .ok (.aload_n 0, 1) := by decide +kernel
theorem d_GT_moveAt_49 : decode b_GT_moveAt 49 = .ok (.iload_n 1, 1) := by decide +kernel
theorem d_GT_moveAt_50 : decode b_GT_moveAt 50 = .ok (.aload_n 2, 1) := by decide +kernel
theorem d_GT_moveAt_51 : decode b_GT_moveAt 51 = .ok (.invokevirtual 158, 3) := by decide +kernel
theorem d_GT_moveAt_54 : decode b_GT_moveAt 54 = .ok (.goto 26, 3) := by decide +kernel
theorem d_GT_moveAt_57 : decode b_GT_moveAt 57 = .ok (.iload_n 1, 1) := by decide +kernel
theorem d_GT_moveAt_58 : decode b_GT_moveAt 58 = .ok (.iconst 1, 1) := by decide +kernel
theorem d_GT_moveAt_59 : decode b_GT_moveAt 59 = .ok (.iadd, 1) := by decide +kernel
theorem d_GT_moveAt_60 : decode b_GT_moveAt 60 = .ok (.aload_n 0, 1) := by decide +kernel
theorem d_GT_moveAt_61 : decode b_GT_moveAt 61 = .ok (.getfield 47, 3) := by decide +kernel
theorem d_GT_moveAt_64 : decode b_GT_moveAt 64 = .ok (.arraylength, 1) := by decide +kernel
theorem d_GT_moveAt_65 : decode b_GT_moveAt 65 = .ok (.if_icmp .ge 15, 3) := by decide +kernel
theorem d_GT_moveAt_68 : decode b_GT_moveAt 68 = .ok (.aload_n 0, 1) := by decide +kernel
theorem d_GT_moveAt_69 : decode b_GT_moveAt 69 = .ok (.getfield 47, 3) := by decide +kernel
theorem d_GT_moveAt_72 : decode b_GT_moveAt 72 = .ok (.iload_n 1, 1) := by decide +kernel
theorem d_GT_moveAt_73 : decode b_GT_moveAt 73 = .ok (.iconst 1, 1) := by decide +kernel
theorem d_GT_moveAt_74 : decode b_GT_moveAt 74 = .ok (.iadd, 1) := by decide +kernel
theorem d_GT_moveAt_75 : decode b_GT_moveAt 75 = .ok (.aaload, 1) := by decide +kernel
theorem d_GT_moveAt_76 : decode b_GT_moveAt 76 = .ok (.aload_n 2, 1) := by decide +kernel
theorem d_GT_moveAt_77 : decode b_GT_moveAt 77 = .ok (.invokevirtual 82, 3) := by decide +kernel
theorem d_GT_moveAt_80 : decode b_GT_moveAt 80 = .ok (.return_, 1) := by decide +kernel
theorem d_GT_putInto_0 : decode b_GT_putInto 0 = .ok (.iload_n 1, 1) := by decide +kernel
theorem d_GT_putInto_1 : decode b_GT_putInto 1 = .ok (.ifCond .lt 12, 3) := by decide +kernel
theorem d_GT_putInto_4 : decode b_GT_putInto 4 = .ok (.iload_n 1, 1) := by decide +kernel
theorem d_GT_putInto_5 : decode b_GT_putInto 5 = .ok (.aload_n 0, 1) := by decide +kernel
theorem d_GT_putInto_6 : decode b_GT_putInto 6 = .ok (.getfield 51, 3) := by decide +kernel
theorem d_GT_putInto_9 : decode b_GT_putInto 9 = .ok (.arraylength, 1) := by decide +kernel
theorem d_GT_putInto_10 : decode b_GT_putInto 10 = .ok (.if_icmp .lt 4, 3) := by decide +kernel
theorem d_GT_putInto_13 : decode b_GT_putInto 13 = .ok (.return_, 1) := by decide +kernel
theorem d_GT_putInto_14 : decode b_GT_putInto 14 = .ok (.aload_n 2, 1) := by decide +kernel
theorem d_GT_putInto_15 : decode b_GT_putInto 15 = .ok (.iload_n 1, 1) := by decide +kernel
theorem d_GT_putInto_16 : decode b_GT_putInto 16 = .ok (.putfield 100, 3) := by decide +kernel
theorem d_GT_putInto_19 : decode b_GT_putInto 19 = .ok (.aload_n 0, 1) := by decide +kernel
theorem d_GT_putInto_20 : decode b_GT_putInto 20 = .ok (.getfield 51, 3) := by decide +kernel
theorem d_GT_putInto_23 : decode b_GT_putInto 23 = .ok (.iload_n 1, 1) := by decide +kernel
theorem d_GT_putInto_24 : decode b_GT_putInto 24 = .ok (.dup2, 1) := by decide +kernel
theorem d_GT_putInto_25 : decode b_GT_putInto 25 = .ok (.iaload, 1) := by decide +kernel
theorem d_GT_putInto_26 : decode b_GT_putInto 26 = .ok (.iconst 1, 1) := by decide +kernel
theorem d_GT_putInto_27 : decode b_GT_putInto 27 = .ok (.iadd, 1) := by decide +kernel
theorem d_GT_putInto_28 : decode b_GT_putInto 28 = .ok (.iastore, 1) := by decide +kernel
theorem d_GT_putInto_29 : decode b_GT_putInto 29 = .ok (.aload_n 0, 1) := by decide +kernel
theorem d_GT_putInto_30 : decode b_GT_putInto 30 = .ok (.getfield 16, 3) := by decide +kernel
theorem d_GT_putInto_33 : decode b_GT_putInto 33 = .ok (.aload_n 2, 1) := by decide +kernel
theorem d_GT_putInto_34 : decode b_GT_putInto 34 = .ok (.invokevirtual 78, 3) := by decide +kernel
theorem d_GT_putInto_37 : decode b_GT_putInto 37 = .ok (.aload_n 2, 1) := by decide +kernel
theorem d_GT_putInto_38 : decode b_GT_putInto 38 = .ok (.getfield 103, 3) := by decide +kernel
theorem d_GT_putInto_41 : decode b_GT_putInto 41 = .ok (.iconst (-1), 1) := by decide +kernel
theorem d_GT_putInto_42 : decode b_GT_putInto 42 = .ok (.if_icmp .eq 19, 3) := by decide +kernel
theorem d_GT_putInto_45 : decode b_GT_putInto 45 = .ok (.aload_n 2, 1) := by decide +kernel
theorem d_GT_putInto_46 : decode b_GT_putInto 46 = .ok (.getfield 103, 3) := by decide +kernel
theorem d_GT_putInto_49 : decode b_GT_putInto 49 = .ok (.iload_n 1, 1) := by decide +kernel
theorem d_GT_putInto_50 : decode b_GT_putInto 50 = .ok (.if_icmp .eq 11, 3) := by decide +kernel
theorem d_GT_putInto_53 : decode b_GT_putInto 53 = .ok (.aload_n 0, 1) := by decide +kernel
theorem d_GT_putInto_54 : decode b_GT_putInto 54 = .ok (.getfield 19, 3) := by decide +kernel
theorem d_GT_putInto_57 : decode b_GT_putInto 57 = .ok (.aload_n 2, 1) := by decide +kernel
theorem d_GT_putInto_58 : decode b_GT_putInto 58 = .ok (.invokevirtual 78, 3) := by decide +kernel
theorem d_GT_putInto_61 : decode b_GT_putInto 61 = .ok (.return_, 1) := by decide +kernel
theorem d_Gate_init_0 : decode b_Gate_init 0 = .ok (.aload_n 0, 1) := by decide +kernel
theorem d_Gate_init_1 : decode b_Gate_init 1 = .ok (.invokespecial 3, 3) := by decide +kernel
theorem d_Gate_init_4 : decode b_Gate_init 4 = .ok (.aload_n 0, 1) := by decide +kernel
theorem d_Gate_init_5 : decode b_Gate_init 5 = .ok (.iconst 0, 1) := by decide +kernel
theorem d_Gate_init_6 : decode b_Gate_init 6 = .ok (.putfield 9, 3) := by decide +kernel
theorem d_Gate_init_9 : decode b_Gate_init 9 = .ok (.aload_n 0, 1) := by decide +kernel
theorem d_Gate_init_10 : decode b_Gate_init 10 = .ok (.iconst 0, 1) := by decide +kernel
theorem d_Gate_init_11 : decode b_Gate_init 11 = .ok (.putfield 15, 3) := by decide +kernel
theorem d_Gate_init_14 : decode b_Gate_init 14 = .ok (.aload_n 0, 1) := by decide +kernel
theorem d_Gate_init_15 : decode b_Gate_init 15 = .ok (.sipush 1000, 3) := by decide +kernel
theorem d_Gate_init_18 : decode b_Gate_init 18 = .ok (.putfield 18, 3) := by decide +kernel
theorem d_Gate_init_21 : decode b_Gate_init 21 = .ok (.aload_n 0, 1) := by decide +kernel
theorem d_Gate_init_22 : decode b_Gate_init 22 = .ok (.iconst 0, 1) := by decide +kernel
theorem d_Gate_init_23 : decode b_Gate_init 23 = .ok (.putfield 22, 3) := by decide +kernel
theorem d_Gate_init_26 : decode b_Gate_init 26 = .ok (.aload_n 0, 1) := by decide +kernel
theorem d_Gate_init_27 : decode b_Gate_init 27 = .ok (.lconst 0, 1) := by decide +kernel
theorem d_Gate_init_28 : decode b_Gate_init 28 = .ok (.putfield 25, 3) := by decide +kernel
theorem d_Gate_init_31 : decode b_Gate_init 31 = .ok (.return_, 1) := by decide +kernel
theorem d_Gate_takes_0 : decode b_Gate_takes 0 = .ok (.aload_n 1, 1) := by decide +kernel
theorem d_Gate_takes_1 : decode b_Gate_takes 1 = .ok (.getfield 29, 3) := by decide +kernel
theorem d_Gate_takes_4 : decode b_Gate_takes 4 = .ok (.iload_n 2, 1) := by decide +kernel
theorem d_Gate_takes_5 : decode b_Gate_takes 5 = .ok (.if_icmp .ne 18, 3) := by decide +kernel
theorem d_Gate_takes_8 : decode b_Gate_takes 8 = .ok (.aload_n 0, 1) := by decide +kernel
theorem d_Gate_takes_9 : decode b_Gate_takes 9 = .ok (.getfield 22, 3) := by decide +kernel
theorem d_Gate_takes_12 : decode b_Gate_takes 12 = .ok (.aload_n 0, 1) := by decide +kernel
theorem d_Gate_takes_13 : decode b_Gate_takes 13 = .ok (.getfield 18, 3) := by decide +kernel
theorem d_Gate_takes_16 : decode b_Gate_takes 16 = .ok (.if_icmp .ge 7, 3) := by decide +kernel
theorem d_Gate_takes_19 : decode b_Gate_takes 19 = .ok (.iconst 1, 1) := by decide +kernel
theorem d_Gate_takes_20 : decode b_Gate_takes 20 = .ok (.goto 4, 3) := by decide +kernel
theorem d_Gate_takes_23 : decode b_Gate_takes 23 = .ok (.iconst 0, 1) := by decide +kernel
theorem d_Gate_takes_24 : decode b_Gate_takes 24 = .ok (.istore_n 3, 1) := by decide +kernel
theorem d_Gate_takes_25 : decode b_Gate_takes 25 = .ok (.aload_n 0, 1) := by decide +kernel
theorem d_Gate_takes_26 : decode b_Gate_takes 26 = .ok (.getfield 15, 3) := by decide +kernel
theorem d_Gate_takes_29 : decode b_Gate_takes 29 = .ok (.ifCond .ne 21, 3) := by decide +kernel
theorem d_Gate_takes_32 : decode b_Gate_takes 32 = .ok (.aload_n 1, 1) := by decide +kernel
theorem d_Gate_takes_33 : decode b_Gate_takes 33 = .ok (.iload_n 2, 1) := by decide +kernel
theorem d_Gate_takes_34 : decode b_Gate_takes 34 = .ok (.invokevirtual 34, 3) := by decide +kernel
theorem d_Gate_takes_37 : decode b_Gate_takes 37 = .ok (.aload_n 0, 1) := by decide +kernel
theorem d_Gate_takes_38 : decode b_Gate_takes 38 = .ok (.getfield 25, 3) := by decide +kernel
theorem d_Gate_takes_41 : decode b_Gate_takes 41 = .ok (.lcmp, 1) := by decide +kernel
theorem d_Gate_takes_42 : decode b_Gate_takes 42 = .ok (.ifCond .lt 8, 3) := by decide +kernel
theorem d_Gate_takes_45 : decode b_Gate_takes 45 = .ok (.aload_n 0, 1) := by decide +kernel
theorem d_Gate_takes_46 : decode b_Gate_takes 46 = .ok (.iload_n 3, 1) := by decide +kernel
theorem d_Gate_takes_47 : decode b_Gate_takes 47 = .ok (.putfield 9, 3) := by decide +kernel
theorem d_Gate_takes_50 : decode b_Gate_takes 50 = .ok (.aload_n 0, 1) := by decide +kernel
theorem d_Gate_takes_51 : decode b_Gate_takes 51 = .ok (.aload_n 1, 1) := by decide +kernel
theorem d_Gate_takes_52 : decode b_Gate_takes 52 = .ok (.iload_n 2, 1) := by decide +kernel
theorem d_Gate_takes_53 : decode b_Gate_takes 53 = .ok (.invokevirtual 34, 3) := by decide +kernel
theorem d_Gate_takes_56 : decode b_Gate_takes 56 = .ok (.aload_n 1, 1) := by decide +kernel
theorem d_Gate_takes_57 : decode b_Gate_takes 57 = .ok (.getfield 38, 3) := by decide +kernel
theorem d_Gate_takes_60 : decode b_Gate_takes 60 = .ok (.ladd, 1) := by decide +kernel
theorem d_Gate_takes_61 : decode b_Gate_takes 61 = .ok (.ldc2_w 41, 3) := by decide +kernel
theorem d_Gate_takes_64 : decode b_Gate_takes 64 = .ok (.ladd, 1) := by decide +kernel
theorem d_Gate_takes_65 : decode b_Gate_takes 65 = .ok (.putfield 25, 3) := by decide +kernel
theorem d_Gate_takes_68 : decode b_Gate_takes 68 = .ok (.aload_n 0, 1) := by decide +kernel
theorem d_Gate_takes_69 : decode b_Gate_takes 69 = .ok (.getfield 9, 3) := by decide +kernel
theorem d_Gate_takes_72 : decode b_Gate_takes 72 = .ok (.ifCond .eq 13, 3) := by decide +kernel
theorem d_Gate_takes_75 : decode b_Gate_takes 75 = .ok (.aload_n 0, 1) := by decide +kernel
theorem d_Gate_takes_76 : decode b_Gate_takes 76 = .ok (.dup, 1) := by decide +kernel
theorem d_Gate_takes_77 : decode b_Gate_takes 77 = .ok (.getfield 22, 3) := by decide +kernel
theorem d_Gate_takes_80 : decode b_Gate_takes 80 = .ok (.iconst 1, 1) := by decide +kernel
theorem d_Gate_takes_81 : decode b_Gate_takes 81 = .ok (.iadd, 1) := by decide +kernel
theorem d_Gate_takes_82 : decode b_Gate_takes 82 = .ok (.putfield 22, 3) := by decide +kernel
theorem d_Gate_takes_85 : decode b_Gate_takes 85 = .ok (.aload_n 0, 1) := by decide +kernel
theorem d_Gate_takes_86 : decode b_Gate_takes 86 = .ok (.getfield 9, 3) := by decide +kernel
theorem d_Gate_takes_89 : decode b_Gate_takes 89 = .ok (.ireturn, 1) := by decide +kernel
theorem d_Item_init_0 : decode b_Item_init 0 = .ok (.aload_n 0, 1) := by decide +kernel
theorem d_Item_init_1 : decode b_Item_init 1 = .ok (.invokespecial 3, 3) := by decide +kernel
theorem d_Item_init_4 : decode b_Item_init 4 = .ok (.aload_n 0, 1) := by decide +kernel
theorem d_Item_init_5 : decode b_Item_init 5 = .ok (.iconst (-1), 1) := by decide +kernel
theorem d_Item_init_6 : decode b_Item_init 6 = .ok (.putfield 9, 3) := by decide +kernel
theorem d_Item_init_9 : decode b_Item_init 9 = .ok (.aload_n 0, 1) := by decide +kernel
theorem d_Item_init_10 : decode b_Item_init 10 = .ok (.iconst (-1), 1) := by decide +kernel
theorem d_Item_init_11 : decode b_Item_init 11 = .ok (.putfield 15, 3) := by decide +kernel
theorem d_Item_init_14 : decode b_Item_init 14 = .ok (.aload_n 0, 1) := by decide +kernel
theorem d_Item_init_15 : decode b_Item_init 15 = .ok (.iconst 0, 1) := by decide +kernel
theorem d_Item_init_16 : decode b_Item_init 16 = .ok (.putfield 18, 3) := by decide +kernel
theorem d_Item_init_19 : decode b_Item_init 19 = .ok (.aload_n 0, 1) := by decide +kernel
theorem d_Item_init_20 : decode b_Item_init 20 = .ok (.aconst_null, 1) := by decide +kernel
theorem d_Item_init_21 : decode b_Item_init 21 = .ok (.putfield 21, 3) := by decide +kernel
theorem d_Item_init_24 : decode b_Item_init 24 = .ok (.aload_n 0, 1) := by decide +kernel
theorem d_Item_init_25 : decode b_Item_init 25 = .ok (.iload_n 1, 1) := by decide +kernel
theorem d_Item_init_26 : decode b_Item_init 26 = .ok (.putfield 25, 3) := by decide +kernel
theorem d_Item_init_29 : decode b_Item_init 29 = .ok (.aload_n 0, 1) := by decide +kernel
theorem d_Item_init_30 : decode b_Item_init 30 = .ok (.lload_n 2, 1) := by decide +kernel
theorem d_Item_init_31 : decode b_Item_init 31 = .ok (.putfield 28, 3) := by decide +kernel
theorem d_Item_init_34 : decode b_Item_init 34 = .ok (.aload_n 0, 1) := by decide +kernel
theorem d_Item_init_35 : decode b_Item_init 35 = .ok (.lload 4, 2) := by decide +kernel
theorem d_Item_init_37 : decode b_Item_init 37 = .ok (.putfield 32, 3) := by decide +kernel
theorem d_Item_init_40 : decode b_Item_init 40 = .ok (.return_, 1) := by decide +kernel
theorem d_Item_frontAt_0 : decode b_Item_frontAt 0 = .ok (.aload_n 0, 1) := by decide +kernel
theorem d_Item_frontAt_1 : decode b_Item_frontAt 1 = .ok (.getfield 28, 3) := by decide +kernel
theorem d_Item_frontAt_4 : decode b_Item_frontAt 4 = .ok (.ldc2_w 35, 3) := by decide +kernel
theorem d_Item_frontAt_7 : decode b_Item_frontAt 7 = .ok (.iload_n 1, 1) := by decide +kernel
theorem d_Item_frontAt_8 : decode b_Item_frontAt 8 = .ok (.iconst 1, 1) := by decide +kernel
theorem d_Item_frontAt_9 : decode b_Item_frontAt 9 = .ok (.iadd, 1) := by decide +kernel
theorem d_Item_frontAt_10 : decode b_Item_frontAt 10 = .ok (.i2l, 1) := by decide +kernel
theorem d_Item_frontAt_11 : decode b_Item_frontAt 11 = .ok (.lmul, 1) := by decide +kernel
theorem d_Item_frontAt_12 : decode b_Item_frontAt 12 = .ok (.ladd, 1) := by decide +kernel
theorem d_Item_frontAt_13 : decode b_Item_frontAt 13 = .ok (.lreturn, 1) := by decide +kernel
theorem d_Line_init_0 : decode b_Line_init 0 = .ok (.aload_n 0, 1) := by decide +kernel
theorem d_Line_init_1 : decode b_Line_init 1 = .ok (.invokespecial 1, 3) := by decide +kernel
theorem d_Line_init_4 : decode b_Line_init 4 = .ok (.aload_n 0, 1) := by decide +kernel
theorem d_Line_init_5 : decode b_Line_init 5 = .ok (.aconst_null, 1) := by decide +kernel
theorem d_Line_init_6 : decode b_Line_init 6 = .ok (.putfield 7, 3) := by decide +kernel
theorem d_Line_init_9 : decode b_Line_init 9 = .ok (.aload_n 0, 1) := by decide +kernel
theorem d_Line_init_10 : decode b_Line_init 10 = .ok (.aconst_null, 1) := by decide +kernel
theorem d_Line_init_11 : decode b_Line_init 11 = .ok (.putfield 13, 3) := by decide +kernel
theorem d_Line_init_14 : decode b_Line_init 14 = .ok (.return_, 1) := by decide +kernel
theorem d_Line_join_0 : decode b_Line_join 0 = .ok (.aload_n 0, 1) := by decide +kernel
theorem d_Line_join_1 : decode b_Line_join 1 = .ok (.getfield 13, 3) := by decide +kernel
theorem d_Line_join_4 : decode b_Line_join 4 = .ok (.ifnonnull 11, 3) := by decide +kernel
theorem d_Line_join_7 : decode b_Line_join 7 = .ok (.aload_n 0, 1) := by decide +kernel
theorem d_Line_join_8 : decode b_Line_join 8 = .ok (.aload_n 1, 1) := by decide +kernel
theorem d_Line_join_9 : decode b_Line_join 9 = .ok (.putfield 7, 3) := by decide +kernel
theorem d_Line_join_12 : decode b_Line_join 12 = .ok (.goto 11, 3) := by decide +kernel
theorem d_Line_join_15 : decode b_Line_join 15 = .ok (.aload_n 0, 1) := by decide +kernel
theorem d_Line_join_16 : decode b_Line_join 16 = .ok (.getfield 13, 3) := by decide +kernel
theorem d_Line_join_19 : decode b_Line_join 19 = .ok (.aload_n 1, 1) := by decide +kernel
theorem d_Line_join_20 : decode b_Line_join 20 = .ok (.putfield 16, 3) := by decide +kernel
theorem d_Line_join_23 : decode b_Line_join 23 = .ok (.aload_n 0, 1) := by decide +kernel
theorem d_Line_join_24 : decode b_Line_join 24 = .ok (.aload_n 1, 1) := by decide +kernel
theorem d_Line_join_25 : decode b_Line_join 25 = .ok (.putfield 13, 3) := by decide +kernel
theorem d_Line_join_28 : decode b_Line_join 28 = .ok (.return_, 1) := by decide +kernel
theorem d_Line_leave_0 : decode b_Line_leave 0 = .ok (.aload_n 0, 1) := by decide +kernel
theorem d_Line_leave_1 : decode b_Line_leave 1 = .ok (.getfield 7, 3) := by decide +kernel
theorem d_Line_leave_4 : decode b_Line_leave 4 = .ok (.astore_n 1, 1) := by decide +kernel
theorem d_Line_leave_5 : decode b_Line_leave 5 = .ok (.aload_n 1, 1) := by decide +kernel
theorem d_Line_leave_6 : decode b_Line_leave 6 = .ok (.ifnull 28, 3) := by decide +kernel
theorem d_Line_leave_9 : decode b_Line_leave 9 = .ok (.aload_n 0, 1) := by decide +kernel
theorem d_Line_leave_10 : decode b_Line_leave 10 = .ok (.aload_n 1, 1) := by decide +kernel
theorem d_Line_leave_11 : decode b_Line_leave 11 = .ok (.getfield 16, 3) := by decide +kernel
theorem d_Line_leave_14 : decode b_Line_leave 14 = .ok (.putfield 7, 3) := by decide +kernel
theorem d_Line_leave_17 : decode b_Line_leave 17 = .ok (.aload_n 1, 1) := by decide +kernel
theorem d_Line_leave_18 : decode b_Line_leave 18 = .ok (.aconst_null, 1) := by decide +kernel
theorem d_Line_leave_19 : decode b_Line_leave 19 = .ok (.putfield 16, 3) := by decide +kernel
theorem d_Line_leave_22 : decode b_Line_leave 22 = .ok (.aload_n 0, 1) := by decide +kernel
theorem d_Line_leave_23 : decode b_Line_leave 23 = .ok (.getfield 7, 3) := by decide +kernel
theorem d_Line_leave_26 : decode b_Line_leave 26 = .ok (.ifnonnull 8, 3) := by decide +kernel
theorem d_Line_leave_29 : decode b_Line_leave 29 = .ok (.aload_n 0, 1) := by decide +kernel
theorem d_Line_leave_30 : decode b_Line_leave 30 = .ok (.aconst_null, 1) := by decide +kernel
theorem d_Line_leave_31 : decode b_Line_leave 31 = .ok (.putfield 13, 3) := by decide +kernel
theorem d_Line_leave_34 : decode b_Line_leave 34 = .ok (.aload_n 1, 1) := by decide +kernel
theorem d_Line_leave_35 : decode b_Line_leave 35 = .ok (.areturn, 1) := by decide +kernel
theorem d_Row_init_0 : decode b_Row_init 0 = .ok (.aload_n 0, 1) := by decide +kernel
theorem d_Row_init_1 : decode b_Row_init 1 = .ok (.invokespecial 3, 3) := by decide +kernel
theorem d_Row_init_4 : decode b_Row_init 4 = .ok (.aload_n 0, 1) := by decide +kernel
theorem d_Row_init_5 : decode b_Row_init 5 = .ok (.sipush 400, 3) := by decide +kernel
theorem d_Row_init_8 : decode b_Row_init 8 = .ok (.anewarray 9, 3) := by decide +kernel
theorem d_Row_init_11 : decode b_Row_init 11 = .ok (.putfield 11, 3) := by decide +kernel
theorem d_Row_init_14 : decode b_Row_init 14 = .ok (.aload_n 0, 1) := by decide +kernel
theorem d_Row_init_15 : decode b_Row_init 15 = .ok (.iconst 0, 1) := by decide +kernel
theorem d_Row_init_16 : decode b_Row_init 16 = .ok (.putfield 17, 3) := by decide +kernel
theorem d_Row_init_19 : decode b_Row_init 19 = .ok (.return_, 1) := by decide +kernel
theorem d_Row_isFull_0 : decode b_Row_isFull 0 = .ok (.aload_n 0, 1) := by decide +kernel
theorem d_Row_isFull_1 : decode b_Row_isFull 1 = .ok (.getfield 17, 3) := by decide +kernel
theorem d_Row_isFull_4 : decode b_Row_isFull 4 = .ok (.aload_n 0, 1) := by decide +kernel
theorem d_Row_isFull_5 : decode b_Row_isFull 5 = .ok (.getfield 11, 3) := by decide +kernel
theorem d_Row_isFull_8 : decode b_Row_isFull 8 = .ok (.arraylength, 1) := by decide +kernel
theorem d_Row_isFull_9 : decode b_Row_isFull 9 = .ok (.if_icmp .lt 7, 3) := by decide +kernel
theorem d_Row_isFull_12 : decode b_Row_isFull 12 = .ok (.iconst 1, 1) := by decide +kernel
theorem d_Row_isFull_13 : decode b_Row_isFull 13 = .ok (.goto 4, 3) := by decide +kernel
theorem d_Row_isFull_16 : decode b_Row_isFull 16 = .ok (.iconst 0, 1) := by decide +kernel
theorem d_Row_isFull_17 : decode b_Row_isFull 17 = .ok (.ireturn, 1) := by decide +kernel
theorem d_Row_add_0 : decode b_Row_add 0 = .ok (.aload_n 0, 1) := by decide +kernel
theorem d_Row_add_1 : decode b_Row_add 1 = .ok (.invokevirtual 21, 3) := by decide +kernel
theorem d_Row_add_4 : decode b_Row_add 4 = .ok (.ifCond .ne 23, 3) := by decide +kernel
theorem d_Row_add_7 : decode b_Row_add 7 = .ok (.aload_n 0, 1) := by decide +kernel
theorem d_Row_add_8 : decode b_Row_add 8 = .ok (.getfield 11, 3) := by decide +kernel
theorem d_Row_add_11 : decode b_Row_add 11 = .ok (.aload_n 0, 1) := by decide +kernel
theorem d_Row_add_12 : decode b_Row_add 12 = .ok (.getfield 17, 3) := by decide +kernel
theorem d_Row_add_15 : decode b_Row_add 15 = .ok (.aload_n 1, 1) := by decide +kernel
theorem d_Row_add_16 : decode b_Row_add 16 = .ok (.aastore, 1) := by decide +kernel
theorem d_Row_add_17 : decode b_Row_add 17 = .ok (.aload_n 0, 1) := by decide +kernel
theorem d_Row_add_18 : decode b_Row_add 18 = .ok (.dup, 1) := by decide +kernel
theorem d_Row_add_19 : decode b_Row_add 19 = .ok (.getfield 17, 3) := by decide +kernel
theorem d_Row_add_22 : decode b_Row_add 22 = .ok (.iconst 1, 1) := by decide +kernel
theorem d_Row_add_23 : decode b_Row_add 23 = .ok (.iadd, 1) := by decide +kernel
theorem d_Row_add_24 : decode b_Row_add 24 = .ok (.putfield 17, 3) := by decide +kernel
theorem d_Row_add_27 : decode b_Row_add 27 = .ok (.return_, 1) := by decide +kernel
theorem d_Row_get_0 : decode b_Row_get 0 = .ok (.iload_n 1, 1) := by decide +kernel
theorem d_Row_get_1 : decode b_Row_get 1 = .ok (.ifCond .lt 11, 3) := by decide +kernel
theorem d_Row_get_4 : decode b_Row_get 4 = .ok (.iload_n 1, 1) := by decide +kernel
theorem d_Row_get_5 : decode b_Row_get 5 = .ok (.aload_n 0, 1) := by decide +kernel
theorem d_Row_get_6 : decode b_Row_get 6 = .ok (.getfield 17, 3) := by decide +kernel
theorem d_Row_get_9 : decode b_Row_get 9 = .ok (.if_icmp .lt 7, 3) := by decide +kernel
theorem d_Row_get_12 : decode b_Row_get 12 = .ok (.aconst_null, 1) := by decide +kernel
theorem d_Row_get_13 : decode b_Row_get 13 = .ok (.goto 9, 3) := by decide +kernel
theorem d_Row_get_16 : decode b_Row_get 16 = .ok (.aload_n 0, 1) := by decide +kernel
theorem d_Row_get_17 : decode b_Row_get 17 = .ok (.getfield 11, 3) := by decide +kernel
theorem d_Row_get_20 : decode b_Row_get 20 = .ok (.iload_n 1, 1) := by decide +kernel
theorem d_Row_get_21 : decode b_Row_get 21 = .ok (.aaload, 1) := by decide +kernel
theorem d_Row_get_22 : decode b_Row_get 22 = .ok (.areturn, 1) := by decide +kernel
