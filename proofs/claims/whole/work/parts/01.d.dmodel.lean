theorem d_Mo_init_0 : decode b_Mo_init 0 = .ok (.aload_n 0, 1) := by decide +kernel
theorem d_Mo_init_1 : decode b_Mo_init 1 = .ok (.invokespecial 1, 3) := by decide +kernel
theorem d_Mo_init_4 : decode b_Mo_init 4 = .ok (.aload_n 0, 1) := by decide +kernel
theorem d_Mo_init_5 : decode b_Mo_init 5 = .ok (.sipush 401, 3) := by decide +kernel
theorem d_Mo_init_8 : decode b_Mo_init 8 = .ok (.newarray .long, 2) := by decide +kernel
theorem d_Mo_init_10 : decode b_Mo_init 10 = .ok (.putfield 7, 3) := by decide +kernel
theorem d_Mo_init_13 : decode b_Mo_init 13 = .ok (.aload_n 0, 1) := by decide +kernel
theorem d_Mo_init_14 : decode b_Mo_init 14 = .ok (.sipush 401, 3) := by decide +kernel
theorem d_Mo_init_17 : decode b_Mo_init 17 = .ok (.newarray .long, 2) := by decide +kernel
theorem d_Mo_init_19 : decode b_Mo_init 19 = .ok (.putfield 13, 3) := by decide +kernel
theorem d_Mo_init_22 : decode b_Mo_init 22 = .ok (.aload_n 0, 1) := by decide +kernel
theorem d_Mo_init_23 : decode b_Mo_init 23 = .ok (.sipush 401, 3) := by decide +kernel
theorem d_Mo_init_26 : decode b_Mo_init 26 = .ok (.newarray .int, 2) := by decide +kernel
theorem d_Mo_init_28 : decode b_Mo_init 28 = .ok (.putfield 16, 3) := by decide +kernel
theorem d_Mo_init_31 : decode b_Mo_init 31 = .ok (.aload_n 0, 1) := by decide +kernel
theorem d_Mo_init_32 : decode b_Mo_init 32 = .ok (.sipush 401, 3) := by decide +kernel
theorem d_Mo_init_35 : decode b_Mo_init 35 = .ok (.newarray .int, 2) := by decide +kernel
theorem d_Mo_init_37 : decode b_Mo_init 37 = .ok (.putfield 20, 3) := by decide +kernel
theorem d_Mo_init_40 : decode b_Mo_init 40 = .ok (.aload_n 0, 1) := by decide +kernel
theorem d_Mo_init_41 : decode b_Mo_init 41 = .ok (.sipush 401, 3) := by decide +kernel
theorem d_Mo_init_44 : decode b_Mo_init 44 = .ok (.newarray .int, 2) := by decide +kernel
theorem d_Mo_init_46 : decode b_Mo_init 46 = .ok (.putfield 23, 3) := by decide +kernel
theorem d_Mo_init_49 : decode b_Mo_init 49 = .ok (.aload_n 0, 1) := by decide +kernel
theorem d_Mo_init_50 : decode b_Mo_init 50 = .ok (.sipush 401, 3) := by decide +kernel
theorem d_Mo_init_53 : decode b_Mo_init 53 = .ok (.newarray .int, 2) := by decide +kernel
theorem d_Mo_init_55 : decode b_Mo_init 55 = .ok (.putfield 26, 3) := by decide +kernel
theorem d_Mo_init_58 : decode b_Mo_init 58 = .ok (.aload_n 0, 1) := by decide +kernel
theorem d_Mo_init_59 : decode b_Mo_init 59 = .ok (.sipush 401, 3) := by decide +kernel
theorem d_Mo_init_62 : decode b_Mo_init 62 = .ok (.newarray .long, 2) := by decide +kernel
theorem d_Mo_init_64 : decode b_Mo_init 64 = .ok (.putfield 29, 3) := by decide +kernel
theorem d_Mo_init_67 : decode b_Mo_init 67 = .ok (.aload_n 0, 1) := by decide +kernel
theorem d_Mo_init_68 : decode b_Mo_init 68 = .ok (.bipush 13, 2) := by decide +kernel
theorem d_Mo_init_70 : decode b_Mo_init 70 = .ok (.newarray .boolean, 2) := by decide +kernel
theorem d_Mo_init_72 : decode b_Mo_init 72 = .ok (.putfield 32, 3) := by decide +kernel
theorem d_Mo_init_75 : decode b_Mo_init 75 = .ok (.aload_n 0, 1) := by decide +kernel
theorem d_Mo_init_76 : decode b_Mo_init 76 = .ok (.bipush 13, 2) := by decide +kernel
theorem d_Mo_init_78 : decode b_Mo_init 78 = .ok (.newarray .boolean, 2) := by decide +kernel
theorem d_Mo_init_80 : decode b_Mo_init 80 = .ok (.putfield 36, 3) := by decide +kernel
theorem d_Mo_init_83 : decode b_Mo_init 83 = .ok (.aload_n 0, 1) := by decide +kernel
theorem d_Mo_init_84 : decode b_Mo_init 84 = .ok (.bipush 13, 2) := by decide +kernel
theorem d_Mo_init_86 : decode b_Mo_init 86 = .ok (.newarray .boolean, 2) := by decide +kernel
theorem d_Mo_init_88 : decode b_Mo_init 88 = .ok (.putfield 39, 3) := by decide +kernel
theorem d_Mo_init_91 : decode b_Mo_init 91 = .ok (.aload_n 0, 1) := by decide +kernel
theorem d_Mo_init_92 : decode b_Mo_init 92 = .ok (.bipush 13, 2) := by decide +kernel
theorem d_Mo_init_94 : decode b_Mo_init 94 = .ok (.newarray .long, 2) := by decide +kernel
theorem d_Mo_init_96 : decode b_Mo_init 96 = .ok (.putfield 42, 3) := by decide +kernel
theorem d_Mo_init_99 : decode b_Mo_init 99 = .ok (.aload_n 0, 1) := by decide +kernel
theorem d_Mo_init_100 : decode b_Mo_init 100 = .ok (.bipush 13, 2) := by decide +kernel
theorem d_Mo_init_102 : decode b_Mo_init 102 = .ok (.newarray .int, 2) := by decide +kernel
theorem d_Mo_init_104 : decode b_Mo_init 104 = .ok (.putfield 45, 3) := by decide +kernel
theorem d_Mo_init_107 : decode b_Mo_init 107 = .ok (.aload_n 0, 1) := by decide +kernel
theorem d_Mo_init_108 : decode b_Mo_init 108 = .ok (.bipush 13, 2) := by decide +kernel
theorem d_Mo_init_110 : decode b_Mo_init 110 = .ok (.newarray .int, 2) := by decide +kernel
theorem d_Mo_init_112 : decode b_Mo_init 112 = .ok (.putfield 48, 3) := by decide +kernel
theorem d_Mo_init_115 : decode b_Mo_init 115 = .ok (.aload_n 0, 1) := by decide +kernel
theorem d_Mo_init_116 : decode b_Mo_init 116 = .ok (.bipush 13, 2) := by decide +kernel
theorem d_Mo_init_118 : decode b_Mo_init 118 = .ok (.newarray .int, 2) := by decide +kernel
theorem d_Mo_init_120 : decode b_Mo_init 120 = .ok (.putfield 51, 3) := by decide +kernel
theorem d_Mo_init_123 : decode b_Mo_init 123 = .ok (.aload_n 0, 1) := by decide +kernel
theorem d_Mo_init_124 : decode b_Mo_init 124 = .ok (.sipush 400, 3) := by decide +kernel
theorem d_Mo_init_127 : decode b_Mo_init 127 = .ok (.newarray .int, 2) := by decide +kernel
theorem d_Mo_init_129 : decode b_Mo_init 129 = .ok (.putfield 54, 3) := by decide +kernel
theorem d_Mo_init_132 : decode b_Mo_init 132 = .ok (.aload_n 0, 1) := by decide +kernel
theorem d_Mo_init_133 : decode b_Mo_init 133 = .ok (.iload_n 1, 1) := by decide +kernel
theorem d_Mo_init_134 : decode b_Mo_init 134 = .ok (.iconst 1, 1) := by decide +kernel
theorem d_Mo_init_135 : decode b_Mo_init 135 = .ok (.if_icmp .ge 7, 3) := by decide +kernel
theorem d_Mo_init_138 : decode b_Mo_init 138 = .ok (.iconst 1, 1) := by decide +kernel
theorem d_Mo_init_139 : decode b_Mo_init 139 = .ok (.goto 15, 3) := by decide +kernel
theorem d_Mo_init_142 : decode b_Mo_init 142 = .ok (.iload_n 1, 1) := by decide +kernel
theorem d_Mo_init_143 : decode b_Mo_init 143 = .ok (.bipush 12, 2) := by decide +kernel
theorem d_Mo_init_145 : decode b_Mo_init 145 = .ok (.if_icmp .le 8, 3) := by decide +kernel
theorem d_Mo_init_148 : decode b_Mo_init 148 = .ok (.bipush 12, 2) := by decide +kernel
theorem d_Mo_init_150 : decode b_Mo_init 150 = .ok (.goto 4, 3) := by decide +kernel
theorem d_Mo_init_153 : decode b_Mo_init 153 = .ok (.iload_n 1, 1) := by decide +kernel
theorem d_Mo_init_154 : decode b_Mo_init 154 = .ok (.putfield 57, 3) := by decide +kernel
theorem d_Mo_init_157 : decode b_Mo_init 157 = .ok (.iconst 0, 1) := by decide +kernel
theorem d_Mo_init_158 : decode b_Mo_init 158 = .ok (.istore_n 2, 1) := by decide +kernel
theorem d_Mo_init_159 : decode b_Mo_init 159 = .ok (.iload_n 2, 1) := by decide +kernel
theorem d_Mo_init_160 : decode b_Mo_init 160 = .ok (.bipush 13, 2) := by decide +kernel
theorem d_Mo_init_162 : decode b_Mo_init 162 = .ok (.if_icmp .ge 18, 3) := by decide +kernel
theorem d_Mo_init_165 : decode b_Mo_init 165 = .ok (.aload_n 0, 1) := by decide +kernel
theorem d_Mo_init_166 : decode b_Mo_init 166 = .ok (.getfield 45, 3) := by decide +kernel
theorem d_Mo_init_169 : decode b_Mo_init 169 = .ok (.iload_n 2, 1) := by decide +kernel
theorem d_Mo_init_170 : decode b_Mo_init 170 = .ok (.sipush 1000, 3) := by decide +kernel
theorem d_Mo_init_173 : decode b_Mo_init 173 = .ok (.iastore, 1) := by decide +kernel
theorem d_Mo_init_174 : decode b_Mo_init 174 = .ok (.iinc 2 1, 3) := by decide +kernel
theorem d_Mo_init_177 : decode b_Mo_init 177 = .ok (.goto (-18), 3) := by decide +kernel
theorem d_Mo_init_180 : decode b_Mo_init 180 = .ok (.return_, 1) := by decide +kernel
theorem d_Mo_isIn_0 : decode b_Mo_isIn 0 = .ok (.lload_n 0, 1) := by decide +kernel
theorem d_Mo_isIn_1 : decode b_Mo_isIn 1 = .ok (.lload_n 2, 1) := by decide +kernel
theorem d_Mo_isIn_2 : decode b_Mo_isIn 2 = .ok (.lcmp, 1) := by decide +kernel
theorem d_Mo_isIn_3 : decode b_Mo_isIn 3 = .ok (.ifCond .lt 14, 3) := by decide +kernel
theorem d_Mo_isIn_6 : decode b_Mo_isIn 6 = .ok (.lload_n 0, 1) := by decide +kernel
theorem d_Mo_isIn_7 : decode b_Mo_isIn 7 = .ok (.lload 4, 2) := by decide +kernel
theorem d_Mo_isIn_9 : decode b_Mo_isIn 9 = .ok (.lcmp, 1) := by decide +kernel
theorem d_Mo_isIn_10 : decode b_Mo_isIn 10 = .ok (.ifCond .gt 7, 3) := by decide +kernel
theorem d_Mo_isIn_13 : decode b_Mo_isIn 13 = .ok (.iconst 1, 1) := by decide +kernel
theorem d_Mo_isIn_14 : decode b_Mo_isIn 14 = .ok (.goto 4, 3) := by decide +kernel
theorem d_Mo_isIn_17 : decode b_Mo_isIn 17 = .ok (.iconst 0, 1) := by decide +kernel
theorem d_Mo_isIn_18 : decode b_Mo_isIn 18 = .ok (.ireturn, 1) := by decide +kernel
theorem d_Mo_isItem_0 : decode b_Mo_isItem 0 = .ok (.iload_n 1, 1) := by decide +kernel
theorem d_Mo_isItem_1 : decode b_Mo_isItem 1 = .ok (.i2l, 1) := by decide +kernel
theorem d_Mo_isItem_2 : decode b_Mo_isItem 2 = .ok (.lconst 1, 1) := by decide +kernel
theorem d_Mo_isItem_3 : decode b_Mo_isItem 3 = .ok (.aload_n 0, 1) := by decide +kernel
theorem d_Mo_isItem_4 : decode b_Mo_isItem 4 = .ok (.getfield 64, 3) := by decide +kernel
theorem d_Mo_isItem_7 : decode b_Mo_isItem 7 = .ok (.i2l, 1) := by decide +kernel
theorem d_Mo_isItem_8 : decode b_Mo_isItem 8 = .ok (.invokestatic 67, 3) := by decide +kernel
theorem d_Mo_isItem_11 : decode b_Mo_isItem 11 = .ok (.ireturn, 1) := by decide +kernel
theorem d_Mo_isBin_0 : decode b_Mo_isBin 0 = .ok (.iload_n 1, 1) := by decide +kernel
theorem d_Mo_isBin_1 : decode b_Mo_isBin 1 = .ok (.i2l, 1) := by decide +kernel
theorem d_Mo_isBin_2 : decode b_Mo_isBin 2 = .ok (.lconst 0, 1) := by decide +kernel
theorem d_Mo_isBin_3 : decode b_Mo_isBin 3 = .ok (.aload_n 0, 1) := by decide +kernel
theorem d_Mo_isBin_4 : decode b_Mo_isBin 4 = .ok (.getfield 57, 3) := by decide +kernel
theorem d_Mo_isBin_7 : decode b_Mo_isBin 7 = .ok (.i2l, 1) := by decide +kernel
theorem d_Mo_isBin_8 : decode b_Mo_isBin 8 = .ok (.lconst 1, 1) := by decide +kernel
theorem d_Mo_isBin_9 : decode b_Mo_isBin 9 = .ok (.lsub, 1) := by decide +kernel
theorem d_Mo_isBin_10 : decode b_Mo_isBin 10 = .ok (.invokestatic 67, 3) := by decide +kernel
theorem d_Mo_isBin_13 : decode b_Mo_isBin 13 = .ok (.ireturn, 1) := by decide +kernel
theorem d_Mo_item_0 : decode b_Mo_item 0 = .ok (.aload_n 0, 1) := by decide +kernel
theorem d_Mo_item_1 : decode b_Mo_item 1 = .ok (.iconst 0, 1) := by decide +kernel
theorem d_Mo_item_2 : decode b_Mo_item 2 = .ok (.putfield 61, 3) := by decide +kernel
theorem d_Mo_item_5 : decode b_Mo_item 5 = .ok (.aload_n 0, 1) := by decide +kernel
theorem d_Mo_item_6 : decode b_Mo_item 6 = .ok (.getfield 64, 3) := by decide +kernel
theorem d_Mo_item_9 : decode b_Mo_item 9 = .ok (.ifCond .le 35, 3) := by decide +kernel
theorem d_Mo_item_12 : decode b_Mo_item 12 = .ok (.lload_n 1, 1) := by decide +kernel
theorem d_Mo_item_13 : decode b_Mo_item 13 = .ok (.aload_n 0, 1) := by decide +kernel
theorem d_Mo_item_14 : decode b_Mo_item 14 = .ok (.getfield 7, 3) := by decide +kernel
theorem d_Mo_item_17 : decode b_Mo_item 17 = .ok (.aload_n 0, 1) := by decide +kernel
theorem d_Mo_item_18 : decode b_Mo_item 18 = .ok (.getfield 64, 3) := by decide +kernel
theorem d_Mo_item_21 : decode b_Mo_item 21 = .ok (.laload, 1) := by decide +kernel
theorem d_Mo_item_22 : decode b_Mo_item 22 = .ok (.lsub, 1) := by decide +kernel
theorem d_Mo_item_23 : decode b_Mo_item 23 = .ok (.aload_n 0, 1) := by decide +kernel
theorem d_Mo_item_24 : decode b_Mo_item 24 = .ok (.getfield 13, 3) := by decide +kernel
theorem d_Mo_item_27 : decode b_Mo_item 27 = .ok (.aload_n 0, 1) := by decide +kernel
theorem d_Mo_item_28 : decode b_Mo_item 28 = .ok (.getfield 64, 3) := by decide +kernel
theorem d_Mo_item_31 : decode b_Mo_item 31 = .ok (.laload, 1) := by decide +kernel
theorem d_Mo_item_32 : decode b_Mo_item 32 = .ok (.lsub, 1) := by decide +kernel
theorem d_Mo_item_33 : decode b_Mo_item 33 = .ok (.ldc2_w 71, 3) := by decide +kernel
theorem d_Mo_item_36 : decode b_Mo_item 36 = .ok (.lcmp, 1) := by decide +kernel
theorem d_Mo_item_37 : decode b_Mo_item 37 = .ok (.ifCond .ge 7, 3) := by decide +kernel
theorem d_Mo_item_40 : decode b_Mo_item 40 = .ok (.iconst 1, 1) := by decide +kernel
theorem d_Mo_item_41 : decode b_Mo_item 41 = .ok (.goto 4, 3) := by decide +kernel
theorem d_Mo_item_44 : decode b_Mo_item 44 = .ok (.iconst 0, 1) := by decide +kernel
theorem d_Mo_item_45 : decode b_Mo_item 45 = .ok (.istore 5, 2) := by decide +kernel
theorem d_Mo_item_47 : decode b_Mo_item 47 = .ok (.lload_n 3, 1) := by decide +kernel
theorem d_Mo_item_48 : decode b_Mo_item 48 = .ok (.lconst 1, 1) := by decide +kernel
theorem d_Mo_item_49 : decode b_Mo_item 49 = .ok (.ldc2_w 73, 3) := by decide +kernel
theorem d_Mo_item_52 : decode b_Mo_item 52 = .ok (.invokestatic 67, 3) := by decide +kernel
theorem d_Mo_item_55 : decode b_Mo_item 55 = .ok (.ifCond .eq 22, 3) := by decide +kernel
theorem d_Mo_item_58 : decode b_Mo_item 58 = .ok (.lload_n 1, 1) := by decide +kernel
theorem d_Mo_item_59 : decode b_Mo_item 59 = .ok (.aload_n 0, 1) := by decide +kernel
theorem d_Mo_item_60 : decode b_Mo_item 60 = .ok (.getfield 75, 3) := by decide +kernel
theorem d_Mo_item_63 : decode b_Mo_item 63 = .ok (.ldc2_w 79, 3) := by decide +kernel
theorem d_Mo_item_66 : decode b_Mo_item 66 = .ok (.invokestatic 67, 3) := by decide +kernel
theorem d_Mo_item_69 : decode b_Mo_item 69 = .ok (.ifCond .eq 8, 3) := by decide +kernel
theorem d_Mo_item_72 : decode b_Mo_item 72 = .ok (.iload 5, 2) := by decide +kernel
theorem d_Mo_item_74 : decode b_Mo_item 74 = .ok (.ifCond .eq 6, 3) := by decide +kernel
theorem d_Mo_item_77 : decode b_Mo_item 77 = .ok (.bipush (-102), 2) := by decide +kernel
theorem d_Mo_item_79 : decode b_Mo_item 79 = .ok (.ireturn, 1) := by decide +kernel
theorem d_Mo_item_80 : decode b_Mo_item 80 = .ok (.aload_n 0, 1) := by decide +kernel
theorem d_Mo_item_81 : decode b_Mo_item 81 = .ok (.getfield 64, 3) := by decide +kernel
theorem d_Mo_item_84 : decode b_Mo_item 84 = .ok (.sipush 400, 3) := by decide +kernel
theorem d_Mo_item_87 : decode b_Mo_item 87 = .ok (.if_icmp .ne 6, 3) := by decide +kernel
theorem d_Mo_item_90 : decode b_Mo_item 90 = .ok (.bipush (-104), 2) := by decide +kernel
theorem d_Mo_item_92 : decode b_Mo_item 92 = .ok (.ireturn, 1) := by decide +kernel
theorem d_Mo_item_93 : decode b_Mo_item 93 = .ok (.aload_n 0, 1) := by decide +kernel
theorem d_Mo_item_94 : decode b_Mo_item 94 = .ok (.dup, 1) := by decide +kernel
theorem d_Mo_item_95 : decode b_Mo_item 95 = .ok (.getfield 64, 3) := by decide +kernel
theorem d_Mo_item_98 : decode b_Mo_item 98 = .ok (.iconst 1, 1) := by decide +kernel
theorem d_Mo_item_99 : decode b_Mo_item 99 = .ok (.iadd, 1) := by decide +kernel
theorem d_Mo_item_100 : decode b_Mo_item 100 = .ok (.putfield 64, 3) := by decide +kernel
theorem d_Mo_item_103 : decode b_Mo_item 103 = .ok (.aload_n 0, 1) := by decide +kernel
theorem d_Mo_item_104 : decode b_Mo_item 104 = .ok (.getfield 7, 3) := by decide +kernel
theorem d_Mo_item_107 : decode b_Mo_item 107 = .ok (.aload_n 0, 1) := by decide +kernel
theorem d_Mo_item_108 : decode b_Mo_item 108 = .ok (.getfield 64, 3) := by decide +kernel
theorem d_Mo_item_111 : decode b_Mo_item 111 = .ok (.lload_n 1, 1) := by decide +kernel
theorem d_Mo_item_112 : decode b_Mo_item 112 = .ok (.lastore, 1) := by decide +kernel
theorem d_Mo_item_113 : decode b_Mo_item 113 = .ok (.aload_n 0, 1) := by decide +kernel
theorem d_Mo_item_114 : decode b_Mo_item 114 = .ok (.getfield 13, 3) := by decide +kernel
theorem d_Mo_item_117 : decode b_Mo_item 117 = .ok (.aload_n 0, 1) := by decide +kernel
theorem d_Mo_item_118 : decode b_Mo_item 118 = .ok (.getfield 64, 3) := by decide +kernel
theorem d_Mo_item_121 : decode b_Mo_item 121 = .ok (.lload_n 3, 1) := by decide +kernel
theorem d_Mo_item_122 : decode b_Mo_item 122 = .ok (.lastore, 1) := by decide +kernel
theorem d_Mo_item_123 : decode b_Mo_item 123 = .ok (.aload_n 0, 1) := by decide +kernel
theorem d_Mo_item_124 : decode b_Mo_item 124 = .ok (.getfield 16, 3) := by decide +kernel
theorem d_Mo_item_127 : decode b_Mo_item 127 = .ok (.aload_n 0, 1) := by decide +kernel
theorem d_Mo_item_128 : decode b_Mo_item 128 = .ok (.getfield 64, 3) := by decide +kernel
theorem d_Mo_item_131 : decode b_Mo_item 131 = .ok (.iconst (-1), 1) := by decide +kernel
theorem d_Mo_item_132 : decode b_Mo_item 132 = .ok (.iastore, 1) := by decide +kernel
theorem d_Mo_item_133 : decode b_Mo_item 133 = .ok (.aload_n 0, 1) := by decide +kernel
theorem d_Mo_item_134 : decode b_Mo_item 134 = .ok (.getfield 20, 3) := by decide +kernel
theorem d_Mo_item_137 : decode b_Mo_item 137 = .ok (.aload_n 0, 1) := by decide +kernel
theorem d_Mo_item_138 : decode b_Mo_item 138 = .ok (.getfield 64, 3) := by decide +kernel
theorem d_Mo_item_141 : decode b_Mo_item 141 = .ok (.iconst 0, 1) := by decide +kernel
theorem d_Mo_item_142 : decode b_Mo_item 142 = .ok (.iastore, 1) := by decide +kernel
theorem d_Mo_item_143 : decode b_Mo_item 143 = .ok (.aload_n 0, 1) := by decide +kernel
theorem d_Mo_item_144 : decode b_Mo_item 144 = .ok (.getfield 23, 3) := by decide +kernel
theorem d_Mo_item_147 : decode b_Mo_item 147 = .ok (.aload_n 0, 1) := by decide +kernel
theorem d_Mo_item_148 : decode b_Mo_item 148 = .ok (.getfield 64, 3) := by decide +kernel
theorem d_Mo_item_151 : decode b_Mo_item 151 = .ok (.iconst (-1), 1) := by decide +kernel
theorem d_Mo_item_152 : decode b_Mo_item 152 = .ok (.iastore, 1) := by decide +kernel
theorem d_Mo_item_153 : decode b_Mo_item 153 = .ok (.aload_n 0, 1) := by decide +kernel
theorem d_Mo_item_154 : decode b_Mo_item 154 = .ok (.getfield 64, 3) := by decide +kernel
theorem d_Mo_item_157 : decode b_Mo_item 157 = .ok (.ireturn, 1) := by decide +kernel
theorem d_Mo_front_0 : decode b_Mo_front 0 = .ok (.aload_n 0, 1) := by decide +kernel
theorem d_Mo_front_1 : decode b_Mo_front 1 = .ok (.getfield 7, 3) := by decide +kernel
theorem d_Mo_front_4 : decode b_Mo_front 4 = .ok (.iload_n 1, 1) := by decide +kernel
theorem d_Mo_front_5 : decode b_Mo_front 5 = .ok (.laload, 1) := by decide +kernel
theorem d_Mo_front_6 : decode b_Mo_front 6 = .ok (.ldc2_w 81, 3) := by decide +kernel
theorem d_Mo_front_9 : decode b_Mo_front 9 = .ok (.iload_n 2, 1) := by decide +kernel
theorem d_Mo_front_10 : decode b_Mo_front 10 = .ok (.i2l, 1) := by decide +kernel
theorem d_Mo_front_11 : decode b_Mo_front 11 = .ok (.lmul, 1) := by decide +kernel
theorem d_Mo_front_12 : decode b_Mo_front 12 = .ok (.ladd, 1) := by decide +kernel
theorem d_Mo_front_13 : decode b_Mo_front 13 = .ok (.ldc2_w 81, 3) := by decide +kernel
theorem d_Mo_front_16 : decode b_Mo_front 16 = .ok (.ladd, 1) := by decide +kernel
theorem d_Mo_front_17 : decode b_Mo_front 17 = .ok (.lreturn, 1) := by decide +kernel
theorem d_Mo_at_0 : decode b_Mo_at 0 = .ok (.aload_n 0, 1) := by decide +kernel
theorem d_Mo_at_1 : decode b_Mo_at 1 = .ok (.iload_n 1, 1) := by decide +kernel
theorem d_Mo_at_2 : decode b_Mo_at 2 = .ok (.iload_n 2, 1) := by decide +kernel
theorem d_Mo_at_3 : decode b_Mo_at 3 = .ok (.invokevirtual 83, 3) := by decide +kernel
theorem d_Mo_at_6 : decode b_Mo_at 6 = .ok (.lstore_n 3, 1) := by decide +kernel
theorem d_Mo_at_7 : decode b_Mo_at 7 = .ok (.iload_n 2, 1) := by decide +kernel
theorem d_Mo_at_8 : decode b_Mo_at 8 = .ok (.aload_n 0, 1) := by decide +kernel
theorem d_Mo_at_9 : decode b_Mo_at 9 = .ok (.getfield 57, 3) := by decide +kernel
theorem d_Mo_at_12 : decode b_Mo_at 12 = .ok (.if_icmp .ge 32, 3) := by decide +kernel
theorem d_Mo_at_15 : decode b_Mo_at 15 = .ok (.aload_n 0, 1) := by decide +kernel
theorem d_Mo_at_16 : decode b_Mo_at 16 = .ok (.getfield 16, 3) := by decide +kernel
theorem d_Mo_at_19 : decode b_Mo_at 19 = .ok (.iload_n 1, 1) := by decide +kernel
theorem d_Mo_at_20 : decode b_Mo_at 20 = .ok (.iaload, 1) := by decide +kernel
theorem d_Mo_at_21 : decode b_Mo_at 21 = .ok (.iload_n 2, 1) := by decide +kernel
theorem d_Mo_at_22 : decode b_Mo_at 22 = .ok (.if_icmp .ne 22, 3) := by decide +kernel
theorem d_Mo_at_25 : decode b_Mo_at 25 = .ok (.aload_n 0, 1) := by decide +kernel
theorem d_Mo_at_26 : decode b_Mo_at 26 = .ok (.getfield 48, 3) := by decide +kernel
theorem d_Mo_at_29 : decode b_Mo_at 29 = .ok (.iload_n 2, 1) := by decide +kernel
theorem d_Mo_at_30 : decode b_Mo_at 30 = .ok (.iaload, 1) := by decide +kernel
theorem d_Mo_at_31 : decode b_Mo_at 31 = .ok (.aload_n 0, 1) := by decide +kernel
theorem d_Mo_at_32 : decode b_Mo_at 32 = .ok (.getfield 45, 3) := by decide +kernel
theorem d_Mo_at_35 : decode b_Mo_at 35 = .ok (.iload_n 2, 1) := by decide +kernel
theorem d_Mo_at_36 : decode b_Mo_at 36 = .ok (.iaload, 1) := by decide +kernel
theorem d_Mo_at_37 : decode b_Mo_at 37 = .ok (.if_icmp .ge 7, 3) := by decide +kernel
theorem d_Mo_at_40 : decode b_Mo_at 40 = .ok (.iconst 1, 1) := by decide +kernel
theorem d_Mo_at_41 : decode b_Mo_at 41 = .ok (.goto 4, 3) := by decide +kernel
theorem d_Mo_at_44 : decode b_Mo_at 44 = .ok (.iconst 0, 1) := by decide +kernel
theorem d_Mo_at_45 : decode b_Mo_at 45 = .ok (.istore 5, 2) := by decide +kernel
theorem d_Mo_at_47 : decode b_Mo_at 47 = .ok (.aload_n 0, 1) := by decide +kernel
theorem d_Mo_at_48 : decode b_Mo_at 48 = .ok (.getfield 36, 3) := by decide +kernel
theorem d_Mo_at_51 : decode b_Mo_at 51 = .ok (.iload_n 2, 1) := by decide +kernel
theorem d_Mo_at_52 : decode b_Mo_at 52 = .ok (.baload, 1) := by decide +kernel
theorem d_Mo_at_53 : decode b_Mo_at 53 = .ok (.ifCond .ne 31, 3) := by decide +kernel
theorem d_Mo_at_56 : decode b_Mo_at 56 = .ok (.aload_n 0, 1) := by decide +kernel
theorem d_Mo_at_57 : decode b_Mo_at 57 = .ok (.getfield 39, 3) := by decide +kernel
theorem d_Mo_at_60 : decode b_Mo_at 60 = .ok (.iload_n 2, 1) := by decide +kernel
theorem d_Mo_at_61 : decode b_Mo_at 61 = .ok (.baload, 1) := by decide +kernel
theorem d_Mo_at_62 : decode b_Mo_at 62 = .ok (.ifCond .eq 18, 3) := by decide +kernel
theorem d_Mo_at_65 : decode b_Mo_at 65 = .ok (.lload_n 3, 1) := by decide +kernel
theorem d_Mo_at_66 : decode b_Mo_at 66 = .ok (.aload_n 0, 1) := by decide +kernel
theorem d_Mo_at_67 : decode b_Mo_at 67 = .ok (.getfield 42, 3) := by decide +kernel
theorem d_Mo_at_70 : decode b_Mo_at 70 = .ok (.iload_n 2, 1) := by decide +kernel
theorem d_Mo_at_71 : decode b_Mo_at 71 = .ok (.laload, 1) := by decide +kernel
theorem d_Mo_at_72 : decode b_Mo_at 72 = .ok (.lsub, 1) := by decide +kernel
theorem d_Mo_at_73 : decode b_Mo_at 73 = .ok (.ldc2_w 87, 3) := by decide +kernel
theorem d_Mo_at_76 : decode b_Mo_at 76 = .ok (.lcmp, 1) := by decide +kernel
theorem d_Mo_at_77 : decode b_Mo_at 77 = .ok (.ifCond .lt 7, 3) := by decide +kernel
theorem d_Mo_at_80 : decode b_Mo_at 80 = .ok (.iconst 1, 1) := by decide +kernel
theorem d_Mo_at_81 : decode b_Mo_at 81 = .ok (.goto 4, 3) := by decide +kernel
theorem d_Mo_at_84 : decode b_Mo_at 84 = .ok (.iconst 0, 1) := by decide +kernel
theorem d_Mo_at_85 : decode b_Mo_at 85 = .ok (.istore 6, 2) := by decide +kernel
theorem d_Mo_at_87 : decode b_Mo_at 87 = .ok (.aload_n 0, 1) := by decide +kernel
theorem d_Mo_at_88 : decode b_Mo_at 88 = .ok (.getfield 32, 3) := by decide +kernel
theorem d_Mo_at_91 : decode b_Mo_at 91 = .ok (.iload_n 2, 1) := by decide +kernel
theorem d_Mo_at_92 : decode b_Mo_at 92 = .ok (.iload_n 2, 1) := by decide +kernel
theorem d_Mo_at_93 : decode b_Mo_at 93 = .ok (.aload_n 0, 1) := by decide +kernel
theorem d_Mo_at_94 : decode b_Mo_at 94 = .ok (.getfield 57, 3) := by decide +kernel
theorem d_Mo_at_97 : decode b_Mo_at 97 = .ok (.if_icmp .eq 25, 3) := by decide +kernel
theorem d_Mo_at_100 : decode b_Mo_at 100 = .ok (.iload 6, 2) := by decide +kernel
theorem d_Mo_at_102 : decode b_Mo_at 102 = .ok (.ifCond .eq 11, 3) := by decide +kernel
theorem d_Mo_at_105 : decode b_Mo_at 105 = .ok (.iload 5, 2) := by decide +kernel
theorem d_Mo_at_107 : decode b_Mo_at 107 = .ok (.ifCond .eq 19, 3) := by decide +kernel
theorem d_Mo_at_110 : decode b_Mo_at 110 = .ok (.goto 12, 3) := by decide +kernel
theorem d_Mo_at_113 : decode b_Mo_at 113 = .ok (.aload_n 0, 1) := by decide +kernel
theorem d_Mo_at_114 : decode b_Mo_at 114 = .ok (.getfield 32, 3) := by decide +kernel
theorem d_Mo_at_117 : decode b_Mo_at 117 = .ok (.iload_n 2, 1) := by decide +kernel
theorem d_Mo_at_118 : decode b_Mo_at 118 = .ok (.baload, 1) := by decide +kernel
theorem d_Mo_at_119 : decode b_Mo_at 119 = .ok (.ifCond .eq 7, 3) := by decide +kernel
theorem d_Mo_at_122 : decode b_Mo_at 122 = .ok (.iconst 1, 1) := by decide +kernel
theorem d_Mo_at_123 : decode b_Mo_at 123 = .ok (.goto 4, 3) := by decide +kernel
theorem d_Mo_at_126 : decode b_Mo_at 126 = .ok (.iconst 0, 1) := by decide +kernel
theorem d_Mo_at_127 : decode b_Mo_at 127 = .ok (.bastore, 1) := by decide +kernel
theorem d_Mo_at_128 : decode b_Mo_at 128 = .ok (.aload_n 0, 1) := by decide +kernel
theorem d_Mo_at_129 : decode b_Mo_at 129 = .ok (.getfield 39, 3) := by decide +kernel
theorem d_Mo_at_132 : decode b_Mo_at 132 = .ok (.iload_n 2, 1) := by decide +kernel
theorem d_Mo_at_133 : decode b_Mo_at 133 = .ok (.iconst 1, 1) := by decide +kernel
theorem d_Mo_at_134 : decode b_Mo_at 134 = .ok (.bastore, 1) := by decide +kernel
theorem d_Mo_at_135 : decode b_Mo_at 135 = .ok (.aload_n 0, 1) := by decide +kernel
theorem d_Mo_at_136 : decode b_Mo_at 136 = .ok (.getfield 42, 3) := by decide +kernel
theorem d_Mo_at_139 : decode b_Mo_at 139 = .ok (.iload_n 2, 1) := by decide +kernel
theorem d_Mo_at_140 : decode b_Mo_at 140 = .ok (.lload_n 3, 1) := by decide +kernel
theorem d_Mo_at_141 : decode b_Mo_at 141 = .ok (.aload_n 0, 1) := by decide +kernel
theorem d_Mo_at_142 : decode b_Mo_at 142 = .ok (.getfield 13, 3) := by decide +kernel
theorem d_Mo_at_145 : decode b_Mo_at 145 = .ok (.iload_n 1, 1) := by decide +kernel
theorem d_Mo_at_146 : decode b_Mo_at 146 = .ok (.laload, 1) := by decide +kernel
theorem d_Mo_at_147 : decode b_Mo_at 147 = .ok (.ladd, 1) := by decide +kernel
theorem d_Mo_at_148 : decode b_Mo_at 148 = .ok (.lastore, 1) := by decide +kernel
theorem d_Mo_at_149 : decode b_Mo_at 149 = .ok (.aload_n 0, 1) := by decide +kernel
theorem d_Mo_at_150 : decode b_Mo_at 150 = .ok (.getfield 32, 3) := by decide +kernel
theorem d_Mo_at_153 : decode b_Mo_at 153 = .ok (.iload_n 2, 1) := by decide +kernel
theorem d_Mo_at_154 : decode b_Mo_at 154 = .ok (.baload, 1) := by decide +kernel
theorem d_Mo_at_155 : decode b_Mo_at 155 = .ok (.ifCond .eq 40, 3) := by decide +kernel
theorem d_Mo_at_158 : decode b_Mo_at 158 = .ok (.aload_n 0, 1) := by decide +kernel
theorem d_Mo_at_159 : decode b_Mo_at 159 = .ok (.getfield 23, 3) := by decide +kernel
theorem d_Mo_at_162 : decode b_Mo_at 162 = .ok (.iload_n 1, 1) := by decide +kernel
theorem d_Mo_at_163 : decode b_Mo_at 163 = .ok (.iload_n 2, 1) := by decide +kernel
theorem d_Mo_at_164 : decode b_Mo_at 164 = .ok (.iastore, 1) := by decide +kernel
theorem d_Mo_at_165 : decode b_Mo_at 165 = .ok (.aload_n 0, 1) := by decide +kernel
theorem d_Mo_at_166 : decode b_Mo_at 166 = .ok (.getfield 29, 3) := by decide +kernel
theorem d_Mo_at_169 : decode b_Mo_at 169 = .ok (.iload_n 1, 1) := by decide +kernel
theorem d_Mo_at_170 : decode b_Mo_at 170 = .ok (.lload_n 3, 1) := by decide +kernel
theorem d_Mo_at_171 : decode b_Mo_at 171 = .ok (.lastore, 1) := by decide +kernel
theorem d_Mo_at_172 : decode b_Mo_at 172 = .ok (.aload_n 0, 1) := by decide +kernel
theorem d_Mo_at_173 : decode b_Mo_at 173 = .ok (.getfield 48, 3) := by decide +kernel
theorem d_Mo_at_176 : decode b_Mo_at 176 = .ok (.iload_n 2, 1) := by decide +kernel
theorem d_Mo_at_177 : decode b_Mo_at 177 = .ok (.dup2, 1) := by decide +kernel
theorem d_Mo_at_178 : decode b_Mo_at 178 = .ok (.iaload, 1) := by decide +kernel
theorem d_Mo_at_179 : decode b_Mo_at 179 = .ok (.iconst 1, 1) := by decide +kernel
theorem d_Mo_at_180 : decode b_Mo_at 180 = .ok (.iadd, 1) := by decide +kernel
theorem d_Mo_at_181 : decode b_Mo_at 181 = .ok (.iastore, 1) := by decide +kernel
theorem d_Mo_at_182 : decode b_Mo_at 182 = .ok (.aload_n 0, 1) := by decide +kernel
theorem d_Mo_at_183 : decode b_Mo_at 183 = .ok (.getfield 51, 3) := by decide +kernel
theorem d_Mo_at_186 : decode b_Mo_at 186 = .ok (.iload_n 2, 1) := by decide +kernel
theorem d_Mo_at_187 : decode b_Mo_at 187 = .ok (.dup2, 1) := by decide +kernel
theorem d_Mo_at_188 : decode b_Mo_at 188 = .ok (.iaload, 1) := by decide +kernel
theorem d_Mo_at_189 : decode b_Mo_at 189 = .ok (.iconst 1, 1) := by decide +kernel
theorem d_Mo_at_190 : decode b_Mo_at 190 = .ok (.iadd, 1) := by decide +kernel
theorem d_Mo_at_191 : decode b_Mo_at 191 = .ok (.iastore, 1) := by decide +kernel
theorem d_Mo_at_192 : decode b_Mo_at 192 = .ok (.goto 13, 3) := by decide +kernel
theorem d_Mo_at_195 : decode b_Mo_at 195 = .ok (.aload_n 0, 1) := by decide +kernel
theorem d_Mo_at_196 : decode b_Mo_at 196 = .ok (.getfield 20, 3) := by decide +kernel
theorem d_Mo_at_199 : decode b_Mo_at 199 = .ok (.iload_n 1, 1) := by decide +kernel
theorem d_Mo_at_200 : decode b_Mo_at 200 = .ok (.dup2, 1) := by decide +kernel
theorem d_Mo_at_201 : decode b_Mo_at 201 = .ok (.iaload, 1) := by decide +kernel
theorem d_Mo_at_202 : decode b_Mo_at 202 = .ok (.iconst 1, 1) := by decide +kernel
theorem d_Mo_at_203 : decode b_Mo_at 203 = .ok (.iadd, 1) := by decide +kernel
theorem d_Mo_at_204 : decode b_Mo_at 204 = .ok (.iastore, 1) := by decide +kernel
theorem d_Mo_at_205 : decode b_Mo_at 205 = .ok (.return_, 1) := by decide +kernel
theorem d_Mo_pass_0 : decode b_Mo_pass 0 = .ok (.aload_n 0, 1) := by decide +kernel
theorem d_Mo_pass_1 : decode b_Mo_pass 1 = .ok (.lload_n 1, 1) := by decide +kernel
theorem d_Mo_pass_2 : decode b_Mo_pass 2 = .ok (.putfield 75, 3) := by decide +kernel
theorem d_Mo_pass_5 : decode b_Mo_pass 5 = .ok (.iconst 0, 1) := by decide +kernel
theorem d_Mo_pass_6 : decode b_Mo_pass 6 = .ok (.istore_n 3, 1) := by decide +kernel
theorem d_Mo_pass_7 : decode b_Mo_pass 7 = .ok (.iload_n 3, 1) := by decide +kernel
theorem d_Mo_pass_8 : decode b_Mo_pass 8 = .ok (.aload_n 0, 1) := by decide +kernel
theorem d_Mo_pass_9 : decode b_Mo_pass 9 = .ok (.getfield 57, 3) := by decide +kernel
theorem d_Mo_pass_12 : decode b_Mo_pass 12 = .ok (.if_icmp .gt 67, 3) := by decide +kernel
theorem d_Mo_pass_15 : decode b_Mo_pass 15 = .ok (.iconst 1, 1) := by decide +kernel
theorem d_Mo_pass_16 : decode b_Mo_pass 16 = .ok (.istore 4, 2) := by decide +kernel
theorem d_Mo_pass_18 : decode b_Mo_pass 18 = .ok (.iload 4, 2) := by decide +kernel
theorem d_Mo_pass_20 : decode b_Mo_pass 20 = .ok (.aload_n 0, 1) := by decide +kernel
theorem d_Mo_pass_21 : decode b_Mo_pass 21 = .ok (.getfield 64, 3) := by decide +kernel
theorem d_Mo_pass_24 : decode b_Mo_pass 24 = .ok (.if_icmp .gt 49, 3) := by decide +kernel
theorem d_Mo_pass_27 : decode b_Mo_pass 27 = .ok (.aload_n 0, 1) := by decide +kernel
theorem d_Mo_pass_28 : decode b_Mo_pass 28 = .ok (.getfield 23, 3) := by decide +kernel
theorem d_Mo_pass_31 : decode b_Mo_pass 31 = .ok (.iload 4, 2) := by decide +kernel
theorem d_Mo_pass_33 : decode b_Mo_pass 33 = .ok (.iaload, 1) := by decide +kernel
theorem d_Mo_pass_34 : decode b_Mo_pass 34 = .ok (.ifCond .ge 33, 3) := by decide +kernel
theorem d_Mo_pass_37 : decode b_Mo_pass 37 = .ok (.aload_n 0, 1) := by decide +kernel
theorem d_Mo_pass_38 : decode b_Mo_pass 38 = .ok (.getfield 20, 3) := by decide +kernel
theorem d_Mo_pass_41 : decode b_Mo_pass 41 = .ok (.iload 4, 2) := by decide +kernel
theorem d_Mo_pass_43 : decode b_Mo_pass 43 = .ok (.iaload, 1) := by decide +kernel
theorem d_Mo_pass_44 : decode b_Mo_pass 44 = .ok (.iload_n 3, 1) := by decide +kernel
theorem d_Mo_pass_45 : decode b_Mo_pass 45 = .ok (.if_icmp .ne 22, 3) := by decide +kernel
theorem d_Mo_pass_48 : decode b_Mo_pass 48 = .ok (.aload_n 0, 1) := by decide +kernel
theorem d_Mo_pass_49 : decode b_Mo_pass 49 = .ok (.iload 4, 2) := by decide +kernel
theorem d_Mo_pass_51 : decode b_Mo_pass 51 = .ok (.iload_n 3, 1) := by decide +kernel
theorem d_Mo_pass_52 : decode b_Mo_pass 52 = .ok (.invokevirtual 83, 3) := by decide +kernel
theorem d_Mo_pass_55 : decode b_Mo_pass 55 = .ok (.lload_n 1, 1) := by decide +kernel
theorem d_Mo_pass_56 : decode b_Mo_pass 56 = .ok (.lcmp, 1) := by decide +kernel
theorem d_Mo_pass_57 : decode b_Mo_pass 57 = .ok (.ifCond .gt 10, 3) := by decide +kernel
theorem d_Mo_pass_60 : decode b_Mo_pass 60 = .ok (.aload_n 0, 1) := by decide +kernel
theorem d_Mo_pass_61 : decode b_Mo_pass 61 = .ok (.iload 4, 2) := by decide +kernel
theorem d_Mo_pass_63 : decode b_Mo_pass 63 = .ok (.iload_n 3, 1) := by decide +kernel
theorem d_Mo_pass_64 : decode b_Mo_pass 64 = .ok (.invokevirtual 89, 3) := by decide +kernel
theorem d_Mo_pass_67 : decode b_Mo_pass 67 = .ok (.iinc 4 1, 3) := by decide +kernel
theorem d_Mo_pass_70 : decode b_Mo_pass 70 = .ok (.goto (-52), 3) := by decide +kernel
theorem d_Mo_pass_73 : decode b_Mo_pass 73 = .ok (.iinc 3 1, 3) := by decide +kernel
theorem d_Mo_pass_76 : decode b_Mo_pass 76 = .ok (.goto (-69), 3) := by decide +kernel
theorem d_Mo_pass_79 : decode b_Mo_pass 79 = .ok (.iconst 1, 1) := by decide +kernel
theorem d_Mo_pass_80 : decode b_Mo_pass 80 = .ok (.istore_n 3, 1) := by decide +kernel
theorem d_Mo_pass_81 : decode b_Mo_pass 81 = .ok (.iload_n 3, 1) := by decide +kernel
theorem d_Mo_pass_82 : decode b_Mo_pass 82 = .ok (.aload_n 0, 1) := by decide +kernel
theorem d_Mo_pass_83 : decode b_Mo_pass 83 = .ok (.getfield 64, 3) := by decide +kernel
theorem d_Mo_pass_86 : decode b_Mo_pass 86 = .ok (.if_icmp .gt 183, 3) := by decide +kernel
theorem d_Mo_pass_89 : decode b_Mo_pass 89 = .ok (.aload_n 0, 1) := by decide +kernel
theorem d_Mo_pass_90 : decode b_Mo_pass 90 = .ok (.getfield 23, 3) := by decide +kernel
theorem d_Mo_pass_93 : decode b_Mo_pass 93 = .ok (.iload_n 3, 1) := by decide +kernel
theorem d_Mo_pass_94 : decode b_Mo_pass 94 = .ok (.iaload, 1) := by decide +kernel
theorem d_Mo_pass_95 : decode b_Mo_pass 95 = .ok (.ifCond .ge 7, 3) := by decide +kernel
theorem d_Mo_pass_98 : decode b_Mo_pass 98 = .ok (.iconst 1, 1) := by decide +kernel
theorem d_Mo_pass_99 : decode b_Mo_pass 99 = .ok (.goto 4, 3) := by decide +kernel
theorem d_Mo_pass_102 : decode b_Mo_pass 102 = .ok (.iconst 0, 1) := by decide +kernel
theorem d_Mo_pass_103 : decode b_Mo_pass 103 = .ok (.istore 4, 2) := by decide +kernel
theorem d_Mo_pass_105 : decode b_Mo_pass 105 = .ok (.iconst 0, 1) := by decide +kernel
theorem d_Mo_pass_106 : decode b_Mo_pass 106 = .ok (.istore 5, 2) := by decide +kernel
theorem d_Mo_pass_108 : decode b_Mo_pass 108 = .ok (.iload 5, 2) := by decide +kernel
theorem d_Mo_pass_110 : decode b_Mo_pass 110 = .ok (.aload_n 0, 1) := by decide +kernel
theorem d_Mo_pass_111 : decode b_Mo_pass 111 = .ok (.getfield 93, 3) := by decide +kernel
theorem d_Mo_pass_114 : decode b_Mo_pass 114 = .ok (.if_icmp .ge 32, 3) := by decide +kernel
theorem d_Mo_pass_117 : decode b_Mo_pass 117 = .ok (.iload 4, 2) := by decide +kernel
theorem d_Mo_pass_119 : decode b_Mo_pass 119 = .ok (.ifCond .ne 14, 3) := by decide +kernel
theorem d_Mo_pass_122 : decode b_Mo_pass 122 = .ok (.aload_n 0, 1) := by decide +kernel
theorem d_Mo_pass_123 : decode b_Mo_pass 123 = .ok (.getfield 54, 3) := by decide +kernel
theorem d_Mo_pass_126 : decode b_Mo_pass 126 = .ok (.iload 5, 2) := by decide +kernel
theorem d_Mo_pass_128 : decode b_Mo_pass 128 = .ok (.iaload, 1) := by decide +kernel
theorem d_Mo_pass_129 : decode b_Mo_pass 129 = .ok (.iload_n 3, 1) := by decide +kernel
theorem d_Mo_pass_130 : decode b_Mo_pass 130 = .ok (.if_icmp .ne 7, 3) := by decide +kernel
theorem d_Mo_pass_133 : decode b_Mo_pass 133 = .ok (.iconst 1, 1) := by decide +kernel
theorem d_Mo_pass_134 : decode b_Mo_pass 134 = .ok (.goto 4, 3) := by decide +kernel
theorem d_Mo_pass_137 : decode b_Mo_pass 137 = .ok (.iconst 0, 1) := by decide +kernel
theorem d_Mo_pass_138 : decode b_Mo_pass 138 = .ok (.istore 4, 2) := by decide +kernel
theorem d_Mo_pass_140 : decode b_Mo_pass 140 = .ok (.iinc 5 1, 3) := by decide +kernel
theorem d_Mo_pass_143 : decode b_Mo_pass 143 = .ok (.goto (-35), 3) := by decide +kernel
theorem d_Mo_pass_146 : decode b_Mo_pass 146 = .ok (.iload 4, 2) := by decide +kernel
theorem d_Mo_pass_148 : decode b_Mo_pass 148 = .ok (.ifCond .ne 115, 3) := by decide +kernel
theorem d_Mo_pass_151 : decode b_Mo_pass 151 = .ok (.aload_n 0, 1) := by decide +kernel
theorem d_Mo_pass_152 : decode b_Mo_pass 152 = .ok (.getfield 93, 3) := by decide +kernel
theorem d_Mo_pass_155 : decode b_Mo_pass 155 = .ok (.istore 5, 2) := by decide +kernel
theorem d_Mo_pass_157 : decode b_Mo_pass 157 = .ok (.iload 5, 2) := by decide +kernel
theorem d_Mo_pass_159 : decode b_Mo_pass 159 = .ok (.ifCond .le 86, 3) := by decide +kernel
theorem d_Mo_pass_162 : decode b_Mo_pass 162 = .ok (.aload_n 0, 1) := by decide +kernel
theorem d_Mo_pass_163 : decode b_Mo_pass 163 = .ok (.getfield 29, 3) := by decide +kernel
theorem d_Mo_pass_166 : decode b_Mo_pass 166 = .ok (.aload_n 0, 1) := by decide +kernel
theorem d_Mo_pass_167 : decode b_Mo_pass 167 = .ok (.getfield 54, 3) := by decide +kernel
theorem d_Mo_pass_170 : decode b_Mo_pass 170 = .ok (.iload 5, 2) := by decide +kernel
theorem d_Mo_pass_172 : decode b_Mo_pass 172 = .ok (.iconst 1, 1) := by decide +kernel
theorem d_Mo_pass_173 : decode b_Mo_pass 173 = .ok (.isub, 1) := by decide +kernel
theorem d_Mo_pass_174 : decode b_Mo_pass 174 = .ok (.iaload, 1) := by decide +kernel
theorem d_Mo_pass_175 : decode b_Mo_pass 175 = .ok (.laload, 1) := by decide +kernel
theorem d_Mo_pass_176 : decode b_Mo_pass 176 = .ok (.aload_n 0, 1) := by decide +kernel
theorem d_Mo_pass_177 : decode b_Mo_pass 177 = .ok (.getfield 29, 3) := by decide +kernel
theorem d_Mo_pass_180 : decode b_Mo_pass 180 = .ok (.iload_n 3, 1) := by decide +kernel
theorem d_Mo_pass_181 : decode b_Mo_pass 181 = .ok (.laload, 1) := by decide +kernel
theorem d_Mo_pass_182 : decode b_Mo_pass 182 = .ok (.lcmp, 1) := by decide +kernel
theorem d_Mo_pass_183 : decode b_Mo_pass 183 = .ok (.ifCond .gt 40, 3) := by decide +kernel
theorem d_Mo_pass_186 : decode b_Mo_pass 186 = .ok (.aload_n 0, 1) := by decide +kernel
theorem d_Mo_pass_187 : decode b_Mo_pass 187 = .ok (.getfield 29, 3) := by decide +kernel
theorem d_Mo_pass_190 : decode b_Mo_pass 190 = .ok (.aload_n 0, 1) := by decide +kernel
theorem d_Mo_pass_191 : decode b_Mo_pass 191 = .ok (.getfield 54, 3) := by decide +kernel
theorem d_Mo_pass_194 : decode b_Mo_pass 194 = .ok (.iload 5, 2) := by decide +kernel
theorem d_Mo_pass_196 : decode b_Mo_pass 196 = .ok (.iconst 1, 1) := by decide +kernel
theorem d_Mo_pass_197 : decode b_Mo_pass 197 = .ok (.isub, 1) := by decide +kernel
theorem d_Mo_pass_198 : decode b_Mo_pass 198 = .ok (.iaload, 1) := by decide +kernel
theorem d_Mo_pass_199 : decode b_Mo_pass 199 = .ok (.laload, 1) := by decide +kernel
theorem d_Mo_pass_200 : decode b_Mo_pass 200 = .ok (.aload_n 0, 1) := by decide +kernel
theorem d_Mo_pass_201 : decode b_Mo_pass 201 = .ok (.getfield 29, 3) := by decide +kernel
theorem d_Mo_pass_204 : decode b_Mo_pass 204 = .ok (.iload_n 3, 1) := by decide +kernel
theorem d_Mo_pass_205 : decode b_Mo_pass 205 = .ok (.laload, 1) := by decide +kernel
theorem d_Mo_pass_206 : decode b_Mo_pass 206 = .ok (.lcmp, 1) := by decide +kernel
theorem d_Mo_pass_207 : decode b_Mo_pass 207 = .ok (.ifCond .ne 38, 3) := by decide +kernel
theorem d_Mo_pass_210 : decode b_Mo_pass 210 = .ok (.aload_n 0, 1) := by decide +kernel
theorem d_Mo_pass_211 : decode b_Mo_pass 211 = .ok (.getfield 54, 3) := by decide +kernel
theorem d_Mo_pass_214 : decode b_Mo_pass 214 = .ok (.iload 5, 2) := by decide +kernel
theorem d_Mo_pass_216 : decode b_Mo_pass 216 = .ok (.iconst 1, 1) := by decide +kernel
theorem d_Mo_pass_217 : decode b_Mo_pass 217 = .ok (.isub, 1) := by decide +kernel
theorem d_Mo_pass_218 : decode b_Mo_pass 218 = .ok (.iaload, 1) := by decide +kernel
theorem d_Mo_pass_219 : decode b_Mo_pass 219 = .ok (.iload_n 3, 1) := by decide +kernel
theorem d_Mo_pass_220 : decode b_Mo_pass 220 = .ok (.if_icmp .le 25, 3) := by decide +kernel
theorem d_Mo_pass_223 : decode b_Mo_pass 223 = .ok (.aload_n 0, 1) := by decide +kernel
theorem d_Mo_pass_224 : decode b_Mo_pass 224 = .ok (.getfield 54, 3) := by decide +kernel
theorem d_Mo_pass_227 : decode b_Mo_pass 227 = .ok (.iload 5, 2) := by decide +kernel
theorem d_Mo_pass_229 : decode b_Mo_pass 229 = .ok (.aload_n 0, 1) := by decide +kernel
theorem d_Mo_pass_230 : decode b_Mo_pass 230 = .ok (.getfield 54, 3) := by decide +kernel
theorem d_Mo_pass_233 : decode b_Mo_pass 233 = .ok (.iload 5, 2) := by decide +kernel
theorem d_Mo_pass_235 : decode b_Mo_pass 235 = .ok (.iconst 1, 1) := by decide +kernel
theorem d_Mo_pass_236 : decode b_Mo_pass 236 = .ok (.isub, 1) := by decide +kernel
theorem d_Mo_pass_237 : decode b_Mo_pass 237 = .ok (.iaload, 1) := by decide +kernel
theorem d_Mo_pass_238 : decode b_Mo_pass 238 = .ok (.iastore, 1) := by decide +kernel
theorem d_Mo_pass_239 : decode b_Mo_pass 239 = .ok (.iinc 5 (-1), 3) := by decide +kernel
theorem d_Mo_pass_242 : decode b_Mo_pass 242 = .ok (.goto (-85), 3) := by decide +kernel
theorem d_Mo_pass_245 : decode b_Mo_pass 245 = .ok (.aload_n 0, 1) := by decide +kernel
theorem d_Mo_pass_246 : decode b_Mo_pass 246 = .ok (.getfield 54, 3) := by decide +kernel
theorem d_Mo_pass_249 : decode b_Mo_pass 249 = .ok (.iload 5, 2) := by decide +kernel
theorem d_Mo_pass_251 : decode b_Mo_pass 251 = .ok (.iload_n 3, 1) := by decide +kernel
theorem d_Mo_pass_252 : decode b_Mo_pass 252 = .ok (.iastore, 1) := by decide +kernel
theorem d_Mo_pass_253 : decode b_Mo_pass 253 = .ok (.aload_n 0, 1) := by decide +kernel
theorem d_Mo_pass_254 : decode b_Mo_pass 254 = .ok (.dup, 1) := by decide +kernel
theorem d_Mo_pass_255 : decode b_Mo_pass 255 = .ok (.getfield 93, 3) := by decide +kernel
theorem d_Mo_pass_258 : decode b_Mo_pass 258 = .ok (.iconst 1, 1) := by decide +kernel
theorem d_Mo_pass_259 : decode b_Mo_pass 259 = .ok (.iadd, 1) := by decide +kernel
theorem d_Mo_pass_260 : decode b_Mo_pass 260 = .ok (.putfield 93, 3) := by decide +kernel
theorem d_Mo_pass_263 : decode b_Mo_pass 263 = .ok (.iinc 3 1, 3) := by decide +kernel
theorem d_Mo_pass_266 : decode b_Mo_pass 266 = .ok (.goto (-185), 3) := by decide +kernel
theorem d_Mo_pass_269 : decode b_Mo_pass 269 = .ok (.return_, 1) := by decide +kernel
theorem d_Mo_order_0 : decode b_Mo_order 0 = .ok (.aload_n 0, 1) := by decide +kernel
theorem d_Mo_order_1 : decode b_Mo_order 1 = .ok (.iconst 0, 1) := by decide +kernel
theorem d_Mo_order_2 : decode b_Mo_order 2 = .ok (.putfield 61, 3) := by decide +kernel
theorem d_Mo_order_5 : decode b_Mo_order 5 = .ok (.aload_n 0, 1) := by decide +kernel
theorem d_Mo_order_6 : decode b_Mo_order 6 = .ok (.iload_n 1, 1) := by decide +kernel
theorem d_Mo_order_7 : decode b_Mo_order 7 = .ok (.invokevirtual 96, 3) := by decide +kernel
theorem d_Mo_order_10 : decode b_Mo_order 10 = .ok (.ifCond .eq 11, 3) := by decide +kernel
theorem d_Mo_order_13 : decode b_Mo_order 13 = .ok (.aload_n 0, 1) := by decide +kernel
theorem d_Mo_order_14 : decode b_Mo_order 14 = .ok (.iload_n 2, 1) := by decide +kernel
theorem d_Mo_order_15 : decode b_Mo_order 15 = .ok (.invokevirtual 100, 3) := by decide +kernel
theorem d_Mo_order_18 : decode b_Mo_order 18 = .ok (.ifCond .ne 6, 3) := by decide +kernel
theorem d_Mo_order_21 : decode b_Mo_order 21 = .ok (.bipush (-101), 2) := by decide +kernel
theorem d_Mo_order_23 : decode b_Mo_order 23 = .ok (.ireturn, 1) := by decide +kernel
theorem d_Mo_order_24 : decode b_Mo_order 24 = .ok (.lload_n 3, 1) := by decide +kernel
theorem d_Mo_order_25 : decode b_Mo_order 25 = .ok (.aload_n 0, 1) := by decide +kernel
theorem d_Mo_order_26 : decode b_Mo_order 26 = .ok (.getfield 75, 3) := by decide +kernel
theorem d_Mo_order_29 : decode b_Mo_order 29 = .ok (.ldc2_w 79, 3) := by decide +kernel
theorem d_Mo_order_32 : decode b_Mo_order 32 = .ok (.invokestatic 67, 3) := by decide +kernel
theorem d_Mo_order_35 : decode b_Mo_order 35 = .ok (.ifCond .ne 6, 3) := by decide +kernel
theorem d_Mo_order_38 : decode b_Mo_order 38 = .ok (.bipush (-102), 2) := by decide +kernel
theorem d_Mo_order_40 : decode b_Mo_order 40 = .ok (.ireturn, 1) := by decide +kernel
theorem d_Mo_order_41 : decode b_Mo_order 41 = .ok (.aload_n 0, 1) := by decide +kernel
theorem d_Mo_order_42 : decode b_Mo_order 42 = .ok (.lload_n 3, 1) := by decide +kernel
theorem d_Mo_order_43 : decode b_Mo_order 43 = .ok (.invokevirtual 103, 3) := by decide +kernel
theorem d_Mo_order_46 : decode b_Mo_order 46 = .ok (.aload_n 0, 1) := by decide +kernel
theorem d_Mo_order_47 : decode b_Mo_order 47 = .ok (.getfield 23, 3) := by decide +kernel
theorem d_Mo_order_50 : decode b_Mo_order 50 = .ok (.iload_n 1, 1) := by decide +kernel
theorem d_Mo_order_51 : decode b_Mo_order 51 = .ok (.iaload, 1) := by decide +kernel
theorem d_Mo_order_52 : decode b_Mo_order 52 = .ok (.ifCond .ge 12, 3) := by decide +kernel
theorem d_Mo_order_55 : decode b_Mo_order 55 = .ok (.aload_n 0, 1) := by decide +kernel
theorem d_Mo_order_56 : decode b_Mo_order 56 = .ok (.getfield 16, 3) := by decide +kernel
theorem d_Mo_order_59 : decode b_Mo_order 59 = .ok (.iload_n 1, 1) := by decide +kernel
theorem d_Mo_order_60 : decode b_Mo_order 60 = .ok (.iaload, 1) := by decide +kernel
theorem d_Mo_order_61 : decode b_Mo_order 61 = .ok (.ifCond .lt 18, 3) := by decide +kernel
theorem d_Mo_order_64 : decode b_Mo_order 64 = .ok (.aload_n 0, 1) := by decide +kernel
theorem d_Mo_order_65 : decode b_Mo_order 65 = .ok (.getfield 23, 3) := by decide +kernel
theorem d_Mo_order_68 : decode b_Mo_order 68 = .ok (.iload_n 1, 1) := by decide +kernel
theorem d_Mo_order_69 : decode b_Mo_order 69 = .ok (.iaload, 1) := by decide +kernel
theorem d_Mo_order_70 : decode b_Mo_order 70 = .ok (.ifCond .lt 7, 3) := by decide +kernel
theorem d_Mo_order_73 : decode b_Mo_order 73 = .ok (.iconst 0, 1) := by decide +kernel
theorem d_Mo_order_74 : decode b_Mo_order 74 = .ok (.goto 4, 3) := by decide +kernel
theorem d_Mo_order_77 : decode b_Mo_order 77 = .ok (.iconst 2, 1) := by decide +kernel
theorem d_Mo_order_78 : decode b_Mo_order 78 = .ok (.ireturn, 1) := by decide +kernel
theorem d_Mo_order_79 : decode b_Mo_order 79 = .ok (.lload_n 3, 1) := by decide +kernel
theorem d_Mo_order_80 : decode b_Mo_order 80 = .ok (.ldc2_w 87, 3) := by decide +kernel
theorem d_Mo_order_83 : decode b_Mo_order 83 = .ok (.ladd, 1) := by decide +kernel
theorem d_Mo_order_84 : decode b_Mo_order 84 = .ok (.aload_n 0, 1) := by decide +kernel
theorem d_Mo_order_85 : decode b_Mo_order 85 = .ok (.iload_n 1, 1) := by decide +kernel
theorem d_Mo_order_86 : decode b_Mo_order 86 = .ok (.iload_n 2, 1) := by decide +kernel
theorem d_Mo_order_87 : decode b_Mo_order 87 = .ok (.invokevirtual 83, 3) := by decide +kernel
theorem d_Mo_order_90 : decode b_Mo_order 90 = .ok (.lsub, 1) := by decide +kernel
theorem d_Mo_order_91 : decode b_Mo_order 91 = .ok (.lstore 5, 2) := by decide +kernel
theorem d_Mo_order_93 : decode b_Mo_order 93 = .ok (.lload 5, 2) := by decide +kernel
theorem d_Mo_order_95 : decode b_Mo_order 95 = .ok (.lconst 0, 1) := by decide +kernel
theorem d_Mo_order_96 : decode b_Mo_order 96 = .ok (.lcmp, 1) := by decide +kernel
theorem d_Mo_order_97 : decode b_Mo_order 97 = .ok (.ifCond .le 14, 3) := by decide +kernel
theorem d_Mo_order_100 : decode b_Mo_order 100 = .ok (.aload_n 0, 1) := by decide +kernel
theorem d_Mo_order_101 : decode b_Mo_order 101 = .ok (.getfield 26, 3) := by decide +kernel
theorem d_Mo_order_104 : decode b_Mo_order 104 = .ok (.iload_n 1, 1) := by decide +kernel
theorem d_Mo_order_105 : decode b_Mo_order 105 = .ok (.lload 5, 2) := by decide +kernel
theorem d_Mo_order_107 : decode b_Mo_order 107 = .ok (.l2i, 1) := by decide +kernel
theorem d_Mo_order_108 : decode b_Mo_order 108 = .ok (.iastore, 1) := by decide +kernel
theorem d_Mo_order_109 : decode b_Mo_order 109 = .ok (.iconst 0, 1) := by decide +kernel
theorem d_Mo_order_110 : decode b_Mo_order 110 = .ok (.ireturn, 1) := by decide +kernel
theorem d_Mo_order_111 : decode b_Mo_order 111 = .ok (.aload_n 0, 1) := by decide +kernel
theorem d_Mo_order_112 : decode b_Mo_order 112 = .ok (.getfield 16, 3) := by decide +kernel
theorem d_Mo_order_115 : decode b_Mo_order 115 = .ok (.iload_n 1, 1) := by decide +kernel
theorem d_Mo_order_116 : decode b_Mo_order 116 = .ok (.iload_n 2, 1) := by decide +kernel
theorem d_Mo_order_117 : decode b_Mo_order 117 = .ok (.iastore, 1) := by decide +kernel
theorem d_Mo_order_118 : decode b_Mo_order 118 = .ok (.iconst 1, 1) := by decide +kernel
theorem d_Mo_order_119 : decode b_Mo_order 119 = .ok (.ireturn, 1) := by decide +kernel
theorem d_Mo_step_0 : decode b_Mo_step 0 = .ok (.aload_n 0, 1) := by decide +kernel
theorem d_Mo_step_1 : decode b_Mo_step 1 = .ok (.iconst 0, 1) := by decide +kernel
theorem d_Mo_step_2 : decode b_Mo_step 2 = .ok (.putfield 61, 3) := by decide +kernel
theorem d_Mo_step_5 : decode b_Mo_step 5 = .ok (.lload_n 1, 1) := by decide +kernel
theorem d_Mo_step_6 : decode b_Mo_step 6 = .ok (.aload_n 0, 1) := by decide +kernel
theorem d_Mo_step_7 : decode b_Mo_step 7 = .ok (.getfield 75, 3) := by decide +kernel
theorem d_Mo_step_10 : decode b_Mo_step 10 = .ok (.ldc2_w 79, 3) := by decide +kernel
theorem d_Mo_step_13 : decode b_Mo_step 13 = .ok (.invokestatic 67, 3) := by decide +kernel
theorem d_Mo_step_16 : decode b_Mo_step 16 = .ok (.ifCond .ne 6, 3) := by decide +kernel
theorem d_Mo_step_19 : decode b_Mo_step 19 = .ok (.bipush (-102), 2) := by decide +kernel
theorem d_Mo_step_21 : decode b_Mo_step 21 = .ok (.ireturn, 1) := by decide +kernel
theorem d_Mo_step_22 : decode b_Mo_step 22 = .ok (.aload_n 0, 1) := by decide +kernel
theorem d_Mo_step_23 : decode b_Mo_step 23 = .ok (.lload_n 1, 1) := by decide +kernel
theorem d_Mo_step_24 : decode b_Mo_step 24 = .ok (.invokevirtual 103, 3) := by decide +kernel
theorem d_Mo_step_27 : decode b_Mo_step 27 = .ok (.aload_n 0, 1) := by decide +kernel
theorem d_Mo_step_28 : decode b_Mo_step 28 = .ok (.getfield 93, 3) := by decide +kernel
theorem d_Mo_step_31 : decode b_Mo_step 31 = .ok (.aload_n 0, 1) := by decide +kernel
theorem d_Mo_step_32 : decode b_Mo_step 32 = .ok (.getfield 107, 3) := by decide +kernel
theorem d_Mo_step_35 : decode b_Mo_step 35 = .ok (.isub, 1) := by decide +kernel
theorem d_Mo_step_36 : decode b_Mo_step 36 = .ok (.istore_n 3, 1) := by decide +kernel
theorem d_Mo_step_37 : decode b_Mo_step 37 = .ok (.aload_n 0, 1) := by decide +kernel
theorem d_Mo_step_38 : decode b_Mo_step 38 = .ok (.aload_n 0, 1) := by decide +kernel
theorem d_Mo_step_39 : decode b_Mo_step 39 = .ok (.getfield 93, 3) := by decide +kernel
theorem d_Mo_step_42 : decode b_Mo_step 42 = .ok (.putfield 107, 3) := by decide +kernel
theorem d_Mo_step_45 : decode b_Mo_step 45 = .ok (.iload_n 3, 1) := by decide +kernel
theorem d_Mo_step_46 : decode b_Mo_step 46 = .ok (.ireturn, 1) := by decide +kernel
theorem d_Mo_out_0 : decode b_Mo_out 0 = .ok (.aload_n 0, 1) := by decide +kernel
theorem d_Mo_out_1 : decode b_Mo_out 1 = .ok (.iconst 0, 1) := by decide +kernel
theorem d_Mo_out_2 : decode b_Mo_out 2 = .ok (.putfield 61, 3) := by decide +kernel
theorem d_Mo_out_5 : decode b_Mo_out 5 = .ok (.iload_n 1, 1) := by decide +kernel
theorem d_Mo_out_6 : decode b_Mo_out 6 = .ok (.ifCond .lt 11, 3) := by decide +kernel
theorem d_Mo_out_9 : decode b_Mo_out 9 = .ok (.iload_n 1, 1) := by decide +kernel
theorem d_Mo_out_10 : decode b_Mo_out 10 = .ok (.aload_n 0, 1) := by decide +kernel
theorem d_Mo_out_11 : decode b_Mo_out 11 = .ok (.getfield 93, 3) := by decide +kernel
theorem d_Mo_out_14 : decode b_Mo_out 14 = .ok (.if_icmp .lt 5, 3) := by decide +kernel
theorem d_Mo_out_17 : decode b_Mo_out 17 = .ok (.iconst (-1), 1) := by decide +kernel
theorem d_Mo_out_18 : decode b_Mo_out 18 = .ok (.ireturn, 1) := by decide +kernel
theorem d_Mo_out_19 : decode b_Mo_out 19 = .ok (.iload_n 2, 1) := by decide +kernel
theorem d_Mo_out_20 : decode b_Mo_out 20 = .ok (.ifCond .ne 12, 3) := by decide +kernel
theorem d_Mo_out_23 : decode b_Mo_out 23 = .ok (.aload_n 0, 1) := by decide +kernel
theorem d_Mo_out_24 : decode b_Mo_out 24 = .ok (.getfield 54, 3) := by decide +kernel
theorem d_Mo_out_27 : decode b_Mo_out 27 = .ok (.iload_n 1, 1) := by decide +kernel
theorem d_Mo_out_28 : decode b_Mo_out 28 = .ok (.iaload, 1) := by decide +kernel
theorem d_Mo_out_29 : decode b_Mo_out 29 = .ok (.goto 43, 3) := by decide +kernel
theorem d_Mo_out_32 : decode b_Mo_out 32 = .ok (.iload_n 2, 1) := by decide +kernel
theorem d_Mo_out_33 : decode b_Mo_out 33 = .ok (.iconst 1, 1) := by decide +kernel
theorem d_Mo_out_34 : decode b_Mo_out 34 = .ok (.if_icmp .ne 17, 3) := by decide +kernel
theorem d_Mo_out_37 : decode b_Mo_out 37 = .ok (.aload_n 0, 1) := by decide +kernel
theorem d_Mo_out_38 : decode b_Mo_out 38 = .ok (.getfield 23, 3) := by decide +kernel
theorem d_Mo_out_41 : decode b_Mo_out 41 = .ok (.aload_n 0, 1) := by decide +kernel
theorem d_Mo_out_42 : decode b_Mo_out 42 = .ok (.getfield 54, 3) := by decide +kernel
theorem d_Mo_out_45 : decode b_Mo_out 45 = .ok (.iload_n 1, 1) := by decide +kernel
theorem d_Mo_out_46 : decode b_Mo_out 46 = .ok (.iaload, 1) := by decide +kernel
theorem d_Mo_out_47 : decode b_Mo_out 47 = .ok (.iaload, 1) := by decide +kernel
theorem d_Mo_out_48 : decode b_Mo_out 48 = .ok (.goto 24, 3) := by decide +kernel
theorem d_Mo_out_51 : decode b_Mo_out 51 = .ok (.iload_n 2, 1) := by decide +kernel
theorem d_Mo_out_52 : decode b_Mo_out 52 = .ok (.iconst 2, 1) := by decide +kernel
theorem d_Mo_out_53 : decode b_Mo_out 53 = .ok (.if_icmp .ne 18, 3) := by decide +kernel
theorem d_Mo_out_56 : decode b_Mo_out 56 = .ok (.aload_n 0, 1) := by decide +kernel
theorem d_Mo_out_57 : decode b_Mo_out 57 = .ok (.getfield 29, 3) := by decide +kernel
theorem d_Mo_out_60 : decode b_Mo_out 60 = .ok (.aload_n 0, 1) := by decide +kernel
theorem d_Mo_out_61 : decode b_Mo_out 61 = .ok (.getfield 54, 3) := by decide +kernel
theorem d_Mo_out_64 : decode b_Mo_out 64 = .ok (.iload_n 1, 1) := by decide +kernel
theorem d_Mo_out_65 : decode b_Mo_out 65 = .ok (.iaload, 1) := by decide +kernel
theorem d_Mo_out_66 : decode b_Mo_out 66 = .ok (.laload, 1) := by decide +kernel
theorem d_Mo_out_67 : decode b_Mo_out 67 = .ok (.l2i, 1) := by decide +kernel
theorem d_Mo_out_68 : decode b_Mo_out 68 = .ok (.goto 4, 3) := by decide +kernel
theorem d_Mo_out_71 : decode b_Mo_out 71 = .ok (.iconst (-1), 1) := by decide +kernel
theorem d_Mo_out_72 : decode b_Mo_out 72 = .ok (.ireturn, 1) := by decide +kernel
theorem d_Mo_height_0 : decode b_Mo_height 0 = .ok (.aload_n 0, 1) := by decide +kernel
theorem d_Mo_height_1 : decode b_Mo_height 1 = .ok (.iconst 0, 1) := by decide +kernel
theorem d_Mo_height_2 : decode b_Mo_height 2 = .ok (.putfield 61, 3) := by decide +kernel
theorem d_Mo_height_5 : decode b_Mo_height 5 = .ok (.aload_n 0, 1) := by decide +kernel
theorem d_Mo_height_6 : decode b_Mo_height 6 = .ok (.iload_n 1, 1) := by decide +kernel
theorem d_Mo_height_7 : decode b_Mo_height 7 = .ok (.invokevirtual 100, 3) := by decide +kernel
theorem d_Mo_height_10 : decode b_Mo_height 10 = .ok (.ifCond .ne 6, 3) := by decide +kernel
theorem d_Mo_height_13 : decode b_Mo_height 13 = .ok (.bipush (-101), 2) := by decide +kernel
theorem d_Mo_height_15 : decode b_Mo_height 15 = .ok (.ireturn, 1) := by decide +kernel
theorem d_Mo_height_16 : decode b_Mo_height 16 = .ok (.iload_n 2, 1) := by decide +kernel
theorem d_Mo_height_17 : decode b_Mo_height 17 = .ok (.i2l, 1) := by decide +kernel
theorem d_Mo_height_18 : decode b_Mo_height 18 = .ok (.lconst 1, 1) := by decide +kernel
theorem d_Mo_height_19 : decode b_Mo_height 19 = .ok (.ldc2_w 81, 3) := by decide +kernel
theorem d_Mo_height_22 : decode b_Mo_height 22 = .ok (.invokestatic 67, 3) := by decide +kernel
theorem d_Mo_height_25 : decode b_Mo_height 25 = .ok (.ifCond .ne 6, 3) := by decide +kernel
theorem d_Mo_height_28 : decode b_Mo_height 28 = .ok (.bipush (-102), 2) := by decide +kernel
theorem d_Mo_height_30 : decode b_Mo_height 30 = .ok (.ireturn, 1) := by decide +kernel
theorem d_Mo_height_31 : decode b_Mo_height 31 = .ok (.aload_n 0, 1) := by decide +kernel
theorem d_Mo_height_32 : decode b_Mo_height 32 = .ok (.getfield 45, 3) := by decide +kernel
theorem d_Mo_height_35 : decode b_Mo_height 35 = .ok (.iload_n 1, 1) := by decide +kernel
theorem d_Mo_height_36 : decode b_Mo_height 36 = .ok (.iaload, 1) := by decide +kernel
theorem d_Mo_height_37 : decode b_Mo_height 37 = .ok (.istore_n 3, 1) := by decide +kernel
theorem d_Mo_height_38 : decode b_Mo_height 38 = .ok (.aload_n 0, 1) := by decide +kernel
theorem d_Mo_height_39 : decode b_Mo_height 39 = .ok (.getfield 45, 3) := by decide +kernel
theorem d_Mo_height_42 : decode b_Mo_height 42 = .ok (.iload_n 1, 1) := by decide +kernel
theorem d_Mo_height_43 : decode b_Mo_height 43 = .ok (.iload_n 2, 1) := by decide +kernel
theorem d_Mo_height_44 : decode b_Mo_height 44 = .ok (.iastore, 1) := by decide +kernel
theorem d_Mo_height_45 : decode b_Mo_height 45 = .ok (.iload_n 3, 1) := by decide +kernel
theorem d_Mo_height_46 : decode b_Mo_height 46 = .ok (.ireturn, 1) := by decide +kernel
theorem d_Mo_swap_0 : decode b_Mo_swap 0 = .ok (.aload_n 0, 1) := by decide +kernel
theorem d_Mo_swap_1 : decode b_Mo_swap 1 = .ok (.iconst 0, 1) := by decide +kernel
theorem d_Mo_swap_2 : decode b_Mo_swap 2 = .ok (.putfield 61, 3) := by decide +kernel
theorem d_Mo_swap_5 : decode b_Mo_swap 5 = .ok (.aload_n 0, 1) := by decide +kernel
theorem d_Mo_swap_6 : decode b_Mo_swap 6 = .ok (.iload_n 1, 1) := by decide +kernel
theorem d_Mo_swap_7 : decode b_Mo_swap 7 = .ok (.invokevirtual 100, 3) := by decide +kernel
theorem d_Mo_swap_10 : decode b_Mo_swap 10 = .ok (.ifCond .ne 6, 3) := by decide +kernel
theorem d_Mo_swap_13 : decode b_Mo_swap 13 = .ok (.bipush (-101), 2) := by decide +kernel
theorem d_Mo_swap_15 : decode b_Mo_swap 15 = .ok (.ireturn, 1) := by decide +kernel
theorem d_Mo_swap_16 : decode b_Mo_swap 16 = .ok (.aload_n 0, 1) := by decide +kernel
theorem d_Mo_swap_17 : decode b_Mo_swap 17 = .ok (.getfield 48, 3) := by decide +kernel
theorem d_Mo_swap_20 : decode b_Mo_swap 20 = .ok (.iload_n 1, 1) := by decide +kernel
theorem d_Mo_swap_21 : decode b_Mo_swap 21 = .ok (.iaload, 1) := by decide +kernel
theorem d_Mo_swap_22 : decode b_Mo_swap 22 = .ok (.istore_n 2, 1) := by decide +kernel
theorem d_Mo_swap_23 : decode b_Mo_swap 23 = .ok (.aload_n 0, 1) := by decide +kernel
theorem d_Mo_swap_24 : decode b_Mo_swap 24 = .ok (.getfield 48, 3) := by decide +kernel
theorem d_Mo_swap_27 : decode b_Mo_swap 27 = .ok (.iload_n 1, 1) := by decide +kernel
theorem d_Mo_swap_28 : decode b_Mo_swap 28 = .ok (.iconst 0, 1) := by decide +kernel
theorem d_Mo_swap_29 : decode b_Mo_swap 29 = .ok (.iastore, 1) := by decide +kernel
theorem d_Mo_swap_30 : decode b_Mo_swap 30 = .ok (.iload_n 2, 1) := by decide +kernel
theorem d_Mo_swap_31 : decode b_Mo_swap 31 = .ok (.ireturn, 1) := by decide +kernel
theorem d_Mo_stuck_0 : decode b_Mo_stuck 0 = .ok (.aload_n 0, 1) := by decide +kernel
theorem d_Mo_stuck_1 : decode b_Mo_stuck 1 = .ok (.iconst 0, 1) := by decide +kernel
theorem d_Mo_stuck_2 : decode b_Mo_stuck 2 = .ok (.putfield 61, 3) := by decide +kernel
theorem d_Mo_stuck_5 : decode b_Mo_stuck 5 = .ok (.aload_n 0, 1) := by decide +kernel
theorem d_Mo_stuck_6 : decode b_Mo_stuck 6 = .ok (.iload_n 1, 1) := by decide +kernel
theorem d_Mo_stuck_7 : decode b_Mo_stuck 7 = .ok (.invokevirtual 100, 3) := by decide +kernel
theorem d_Mo_stuck_10 : decode b_Mo_stuck 10 = .ok (.ifCond .ne 6, 3) := by decide +kernel
theorem d_Mo_stuck_13 : decode b_Mo_stuck 13 = .ok (.bipush (-101), 2) := by decide +kernel
theorem d_Mo_stuck_15 : decode b_Mo_stuck 15 = .ok (.ireturn, 1) := by decide +kernel
theorem d_Mo_stuck_16 : decode b_Mo_stuck 16 = .ok (.aload_n 0, 1) := by decide +kernel
theorem d_Mo_stuck_17 : decode b_Mo_stuck 17 = .ok (.getfield 36, 3) := by decide +kernel
theorem d_Mo_stuck_20 : decode b_Mo_stuck 20 = .ok (.iload_n 1, 1) := by decide +kernel
theorem d_Mo_stuck_21 : decode b_Mo_stuck 21 = .ok (.baload, 1) := by decide +kernel
theorem d_Mo_stuck_22 : decode b_Mo_stuck 22 = .ok (.istore_n 3, 1) := by decide +kernel
theorem d_Mo_stuck_23 : decode b_Mo_stuck 23 = .ok (.aload_n 0, 1) := by decide +kernel
theorem d_Mo_stuck_24 : decode b_Mo_stuck 24 = .ok (.getfield 36, 3) := by decide +kernel
theorem d_Mo_stuck_27 : decode b_Mo_stuck 27 = .ok (.iload_n 1, 1) := by decide +kernel
theorem d_Mo_stuck_28 : decode b_Mo_stuck 28 = .ok (.iload_n 2, 1) := by decide +kernel
theorem d_Mo_stuck_29 : decode b_Mo_stuck 29 = .ok (.bastore, 1) := by decide +kernel
theorem d_Mo_stuck_30 : decode b_Mo_stuck 30 = .ok (.iload_n 3, 1) := by decide +kernel
theorem d_Mo_stuck_31 : decode b_Mo_stuck 31 = .ok (.iload_n 2, 1) := by decide +kernel
theorem d_Mo_stuck_32 : decode b_Mo_stuck 32 = .ok (.if_icmp .ne 7, 3) := by decide +kernel
theorem d_Mo_stuck_35 : decode b_Mo_stuck 35 = .ok (.iconst 0, 1) := by decide +kernel
theorem d_Mo_stuck_36 : decode b_Mo_stuck 36 = .ok (.goto 4, 3) := by decide +kernel
theorem d_Mo_stuck_39 : decode b_Mo_stuck 39 = .ok (.iconst 1, 1) := by decide +kernel
theorem d_Mo_stuck_40 : decode b_Mo_stuck 40 = .ok (.ireturn, 1) := by decide +kernel
theorem d_Mo_late_0 : decode b_Mo_late 0 = .ok (.aload_n 0, 1) := by decide +kernel
theorem d_Mo_late_1 : decode b_Mo_late 1 = .ok (.iconst 0, 1) := by decide +kernel
theorem d_Mo_late_2 : decode b_Mo_late 2 = .ok (.putfield 61, 3) := by decide +kernel
theorem d_Mo_late_5 : decode b_Mo_late 5 = .ok (.aload_n 0, 1) := by decide +kernel
theorem d_Mo_late_6 : decode b_Mo_late 6 = .ok (.iload_n 1, 1) := by decide +kernel
theorem d_Mo_late_7 : decode b_Mo_late 7 = .ok (.invokevirtual 96, 3) := by decide +kernel
theorem d_Mo_late_10 : decode b_Mo_late 10 = .ok (.ifCond .eq 12, 3) := by decide +kernel
theorem d_Mo_late_13 : decode b_Mo_late 13 = .ok (.aload_n 0, 1) := by decide +kernel
theorem d_Mo_late_14 : decode b_Mo_late 14 = .ok (.getfield 26, 3) := by decide +kernel
theorem d_Mo_late_17 : decode b_Mo_late 17 = .ok (.iload_n 1, 1) := by decide +kernel
theorem d_Mo_late_18 : decode b_Mo_late 18 = .ok (.iaload, 1) := by decide +kernel
theorem d_Mo_late_19 : decode b_Mo_late 19 = .ok (.goto 5, 3) := by decide +kernel
theorem d_Mo_late_22 : decode b_Mo_late 22 = .ok (.bipush (-101), 2) := by decide +kernel
theorem d_Mo_late_24 : decode b_Mo_late 24 = .ok (.ireturn, 1) := by decide +kernel
theorem d_Mo_count_0 : decode b_Mo_count 0 = .ok (.aload_n 0, 1) := by decide +kernel
theorem d_Mo_count_1 : decode b_Mo_count 1 = .ok (.iconst 0, 1) := by decide +kernel
theorem d_Mo_count_2 : decode b_Mo_count 2 = .ok (.putfield 61, 3) := by decide +kernel
theorem d_Mo_count_5 : decode b_Mo_count 5 = .ok (.iload_n 1, 1) := by decide +kernel
theorem d_Mo_count_6 : decode b_Mo_count 6 = .ok (.i2l, 1) := by decide +kernel
theorem d_Mo_count_7 : decode b_Mo_count 7 = .ok (.lconst 0, 1) := by decide +kernel
theorem d_Mo_count_8 : decode b_Mo_count 8 = .ok (.aload_n 0, 1) := by decide +kernel
theorem d_Mo_count_9 : decode b_Mo_count 9 = .ok (.getfield 57, 3) := by decide +kernel
theorem d_Mo_count_12 : decode b_Mo_count 12 = .ok (.i2l, 1) := by decide +kernel
theorem d_Mo_count_13 : decode b_Mo_count 13 = .ok (.invokestatic 67, 3) := by decide +kernel
theorem d_Mo_count_16 : decode b_Mo_count 16 = .ok (.ifCond .eq 12, 3) := by decide +kernel
theorem d_Mo_count_19 : decode b_Mo_count 19 = .ok (.aload_n 0, 1) := by decide +kernel
theorem d_Mo_count_20 : decode b_Mo_count 20 = .ok (.getfield 51, 3) := by decide +kernel
theorem d_Mo_count_23 : decode b_Mo_count 23 = .ok (.iload_n 1, 1) := by decide +kernel
theorem d_Mo_count_24 : decode b_Mo_count 24 = .ok (.iaload, 1) := by decide +kernel
theorem d_Mo_count_25 : decode b_Mo_count 25 = .ok (.goto 5, 3) := by decide +kernel
theorem d_Mo_count_28 : decode b_Mo_count 28 = .ok (.bipush (-101), 2) := by decide +kernel
theorem d_Mo_count_30 : decode b_Mo_count 30 = .ok (.ireturn, 1) := by decide +kernel
theorem d_Mo_verify_0 : decode b_Mo_verify 0 = .ok (.aload_n 0, 1) := by decide +kernel
theorem d_Mo_verify_1 : decode b_Mo_verify 1 = .ok (.iconst 0, 1) := by decide +kernel
theorem d_Mo_verify_2 : decode b_Mo_verify 2 = .ok (.putfield 61, 3) := by decide +kernel
theorem d_Mo_verify_5 : decode b_Mo_verify 5 = .ok (.iconst 0, 1) := by decide +kernel
theorem d_Mo_verify_6 : decode b_Mo_verify 6 = .ok (.istore_n 3, 1) := by decide +kernel
theorem d_Mo_verify_7 : decode b_Mo_verify 7 = .ok (.iconst 0, 1) := by decide +kernel
theorem d_Mo_verify_8 : decode b_Mo_verify 8 = .ok (.istore 4, 2) := by decide +kernel
theorem d_Mo_verify_10 : decode b_Mo_verify 10 = .ok (.iload 4, 2) := by decide +kernel
theorem d_Mo_verify_12 : decode b_Mo_verify 12 = .ok (.aload_n 0, 1) := by decide +kernel
theorem d_Mo_verify_13 : decode b_Mo_verify 13 = .ok (.getfield 93, 3) := by decide +kernel
theorem d_Mo_verify_16 : decode b_Mo_verify 16 = .ok (.if_icmp .ge 120, 3) := by decide +kernel
theorem d_Mo_verify_19 : decode b_Mo_verify 19 = .ok (.iload_n 1, 1) := by decide +kernel
theorem d_Mo_verify_20 : decode b_Mo_verify 20 = .ok (.ifCond .lt 116, 3) := by decide +kernel
theorem d_Mo_verify_23 : decode b_Mo_verify 23 = .ok (.aload_n 0, 1) := by decide +kernel
theorem d_Mo_verify_24 : decode b_Mo_verify 24 = .ok (.getfield 54, 3) := by decide +kernel
theorem d_Mo_verify_27 : decode b_Mo_verify 27 = .ok (.iload 4, 2) := by decide +kernel
theorem d_Mo_verify_29 : decode b_Mo_verify 29 = .ok (.iaload, 1) := by decide +kernel
theorem d_Mo_verify_30 : decode b_Mo_verify 30 = .ok (.istore 5, 2) := by decide +kernel
theorem d_Mo_verify_32 : decode b_Mo_verify 32 = .ok (.aload_n 0, 1) := by decide +kernel
theorem d_Mo_verify_33 : decode b_Mo_verify 33 = .ok (.getfield 16, 3) := by decide +kernel
theorem d_Mo_verify_36 : decode b_Mo_verify 36 = .ok (.iload 5, 2) := by decide +kernel
theorem d_Mo_verify_38 : decode b_Mo_verify 38 = .ok (.iaload, 1) := by decide +kernel
theorem d_Mo_verify_39 : decode b_Mo_verify 39 = .ok (.ifCond .lt 24, 3) := by decide +kernel
theorem d_Mo_verify_42 : decode b_Mo_verify 42 = .ok (.aload_n 0, 1) := by decide +kernel
theorem d_Mo_verify_43 : decode b_Mo_verify 43 = .ok (.getfield 16, 3) := by decide +kernel
theorem d_Mo_verify_46 : decode b_Mo_verify 46 = .ok (.iload 5, 2) := by decide +kernel
theorem d_Mo_verify_48 : decode b_Mo_verify 48 = .ok (.iaload, 1) := by decide +kernel
theorem d_Mo_verify_49 : decode b_Mo_verify 49 = .ok (.aload_n 0, 1) := by decide +kernel
theorem d_Mo_verify_50 : decode b_Mo_verify 50 = .ok (.getfield 23, 3) := by decide +kernel
theorem d_Mo_verify_53 : decode b_Mo_verify 53 = .ok (.iload 5, 2) := by decide +kernel
theorem d_Mo_verify_55 : decode b_Mo_verify 55 = .ok (.iaload, 1) := by decide +kernel
theorem d_Mo_verify_56 : decode b_Mo_verify 56 = .ok (.if_icmp .eq 7, 3) := by decide +kernel
theorem d_Mo_verify_59 : decode b_Mo_verify 59 = .ok (.iconst 1, 1) := by decide +kernel
theorem d_Mo_verify_60 : decode b_Mo_verify 60 = .ok (.goto 4, 3) := by decide +kernel
theorem d_Mo_verify_63 : decode b_Mo_verify 63 = .ok (.iconst 0, 1) := by decide +kernel
theorem d_Mo_verify_64 : decode b_Mo_verify 64 = .ok (.istore 6, 2) := by decide +kernel
theorem d_Mo_verify_66 : decode b_Mo_verify 66 = .ok (.iload 6, 2) := by decide +kernel
theorem d_Mo_verify_68 : decode b_Mo_verify 68 = .ok (.ifCond .eq 49, 3) := by decide +kernel
theorem d_Mo_verify_71 : decode b_Mo_verify 71 = .ok (.iload_n 3, 1) := by decide +kernel
theorem d_Mo_verify_72 : decode b_Mo_verify 72 = .ok (.iload_n 1, 1) := by decide +kernel
theorem d_Mo_verify_73 : decode b_Mo_verify 73 = .ok (.if_icmp .ne 44, 3) := by decide +kernel
theorem d_Mo_verify_76 : decode b_Mo_verify 76 = .ok (.iload_n 2, 1) := by decide +kernel
theorem d_Mo_verify_77 : decode b_Mo_verify 77 = .ok (.ifCond .ne 8, 3) := by decide +kernel
theorem d_Mo_verify_80 : decode b_Mo_verify 80 = .ok (.iload 5, 2) := by decide +kernel
theorem d_Mo_verify_82 : decode b_Mo_verify 82 = .ok (.goto 34, 3) := by decide +kernel
theorem d_Mo_verify_85 : decode b_Mo_verify 85 = .ok (.iload_n 2, 1) := by decide +kernel
theorem d_Mo_verify_86 : decode b_Mo_verify 86 = .ok (.iconst 1, 1) := by decide +kernel
theorem d_Mo_verify_87 : decode b_Mo_verify 87 = .ok (.if_icmp .ne 13, 3) := by decide +kernel
theorem d_Mo_verify_90 : decode b_Mo_verify 90 = .ok (.aload_n 0, 1) := by decide +kernel
theorem d_Mo_verify_91 : decode b_Mo_verify 91 = .ok (.getfield 16, 3) := by decide +kernel
theorem d_Mo_verify_94 : decode b_Mo_verify 94 = .ok (.iload 5, 2) := by decide +kernel
theorem d_Mo_verify_96 : decode b_Mo_verify 96 = .ok (.iaload, 1) := by decide +kernel
theorem d_Mo_verify_97 : decode b_Mo_verify 97 = .ok (.goto 19, 3) := by decide +kernel
theorem d_Mo_verify_100 : decode b_Mo_verify 100 = .ok (.iload_n 2, 1) := by decide +kernel
theorem d_Mo_verify_101 : decode b_Mo_verify 101 = .ok (.iconst 2, 1) := by decide +kernel
theorem d_Mo_verify_102 : decode b_Mo_verify 102 = .ok (.if_icmp .ne 13, 3) := by decide +kernel
theorem d_Mo_verify_105 : decode b_Mo_verify 105 = .ok (.aload_n 0, 1) := by decide +kernel
theorem d_Mo_verify_106 : decode b_Mo_verify 106 = .ok (.getfield 23, 3) := by decide +kernel
theorem d_Mo_verify_109 : decode b_Mo_verify 109 = .ok (.iload 5, 2) := by decide +kernel
theorem d_Mo_verify_111 : decode b_Mo_verify 111 = .ok (.iaload, 1) := by decide +kernel
theorem d_Mo_verify_112 : decode b_Mo_verify 112 = .ok (.goto 4, 3) := by decide +kernel
theorem d_Mo_verify_115 : decode b_Mo_verify 115 = .ok (.iconst (-1), 1) := by decide +kernel
theorem d_Mo_verify_116 : decode b_Mo_verify 116 = .ok (.ireturn, 1) := by decide +kernel
theorem d_Mo_verify_117 : decode b_Mo_verify 117 = .ok (.iload 6, 2) := by decide +kernel
theorem d_Mo_verify_119 : decode b_Mo_verify 119 = .ok (.ifCond .eq 9, 3) := by decide +kernel
theorem d_Mo_verify_122 : decode b_Mo_verify 122 = .ok (.iload_n 3, 1) := by decide +kernel
theorem d_Mo_verify_123 : decode b_Mo_verify 123 = .ok (.iconst 1, 1) := by decide +kernel
theorem d_Mo_verify_124 : decode b_Mo_verify 124 = .ok (.iadd, 1) := by decide +kernel
theorem d_Mo_verify_125 : decode b_Mo_verify 125 = .ok (.goto 4, 3) := by decide +kernel
theorem d_Mo_verify_128 : decode b_Mo_verify 128 = .ok (.iload_n 3, 1) := by decide +kernel
theorem d_Mo_verify_129 : decode b_Mo_verify 129 = .ok (.istore_n 3, 1) := by decide +kernel
theorem d_Mo_verify_130 : decode b_Mo_verify 130 = .ok (.iinc 4 1, 3) := by decide +kernel
theorem d_Mo_verify_133 : decode b_Mo_verify 133 = .ok (.goto (-123), 3) := by decide +kernel
theorem d_Mo_verify_136 : decode b_Mo_verify 136 = .ok (.iconst (-1), 1) := by decide +kernel
theorem d_Mo_verify_137 : decode b_Mo_verify 137 = .ok (.ireturn, 1) := by decide +kernel
