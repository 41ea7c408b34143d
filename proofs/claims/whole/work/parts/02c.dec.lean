theorem dX6_init_0 : decode cX6_init 0 = .ok (.aload_n 0, 1) := by decide +kernel
theorem dX6_init_1 : decode cX6_init 1 = .ok (.invokespecial 1, 3) := by decide +kernel
theorem dX6_init_4 : decode cX6_init 4 = .ok (.aload_n 0, 1) := by decide +kernel
theorem dX6_init_5 : decode cX6_init 5 = .ok (.bipush 67, 2) := by decide +kernel
theorem dX6_init_7 : decode cX6_init 7 = .ok (.newarray .boolean, 2) := by decide +kernel
theorem dX6_init_9 : decode cX6_init 9 = .ok (.putfield 7, 3) := by decide +kernel
theorem dX6_init_12 : decode cX6_init 12 = .ok (.aload_n 0, 1) := by decide +kernel
theorem dX6_init_13 : decode cX6_init 13 = .ok (.iconst 5, 1) := by decide +kernel
theorem dX6_init_14 : decode cX6_init 14 = .ok (.newarray .int, 2) := by decide +kernel
theorem dX6_init_16 : decode cX6_init 16 = .ok (.putfield 13, 3) := by decide +kernel
theorem dX6_init_19 : decode cX6_init 19 = .ok (.aload_n 0, 1) := by decide +kernel
theorem dX6_init_20 : decode cX6_init 20 = .ok (.iconst 5, 1) := by decide +kernel
theorem dX6_init_21 : decode cX6_init 21 = .ok (.newarray .int, 2) := by decide +kernel
theorem dX6_init_23 : decode cX6_init 23 = .ok (.putfield 17, 3) := by decide +kernel
theorem dX6_init_26 : decode cX6_init 26 = .ok (.aload_n 0, 1) := by decide +kernel
theorem dX6_init_27 : decode cX6_init 27 = .ok (.iconst 5, 1) := by decide +kernel
theorem dX6_init_28 : decode cX6_init 28 = .ok (.newarray .int, 2) := by decide +kernel
theorem dX6_init_30 : decode cX6_init 30 = .ok (.putfield 20, 3) := by decide +kernel
theorem dX6_init_33 : decode cX6_init 33 = .ok (.aload_n 0, 1) := by decide +kernel
theorem dX6_init_34 : decode cX6_init 34 = .ok (.sipush 250, 3) := by decide +kernel
theorem dX6_init_37 : decode cX6_init 37 = .ok (.newarray .int, 2) := by decide +kernel
theorem dX6_init_39 : decode cX6_init 39 = .ok (.putfield 23, 3) := by decide +kernel
theorem dX6_init_42 : decode cX6_init 42 = .ok (.aload_n 0, 1) := by decide +kernel
theorem dX6_init_43 : decode cX6_init 43 = .ok (.bipush 8, 2) := by decide +kernel
theorem dX6_init_45 : decode cX6_init 45 = .ok (.newarray .int, 2) := by decide +kernel
theorem dX6_init_47 : decode cX6_init 47 = .ok (.putfield 26, 3) := by decide +kernel
theorem dX6_init_50 : decode cX6_init 50 = .ok (.aload_n 0, 1) := by decide +kernel
theorem dX6_init_51 : decode cX6_init 51 = .ok (.bipush 8, 2) := by decide +kernel
theorem dX6_init_53 : decode cX6_init 53 = .ok (.newarray .int, 2) := by decide +kernel
theorem dX6_init_55 : decode cX6_init 55 = .ok (.putfield 29, 3) := by decide +kernel
theorem dX6_init_58 : decode cX6_init 58 = .ok (.aload_n 0, 1) := by decide +kernel
theorem dX6_init_59 : decode cX6_init 59 = .ok (.sipush 320, 3) := by decide +kernel
theorem dX6_init_62 : decode cX6_init 62 = .ok (.newarray .long, 2) := by decide +kernel
theorem dX6_init_64 : decode cX6_init 64 = .ok (.putfield 32, 3) := by decide +kernel
theorem dX6_init_67 : decode cX6_init 67 = .ok (.aload_n 0, 1) := by decide +kernel
theorem dX6_init_68 : decode cX6_init 68 = .ok (.bipush 7, 2) := by decide +kernel
theorem dX6_init_70 : decode cX6_init 70 = .ok (.newarray .int, 2) := by decide +kernel
theorem dX6_init_72 : decode cX6_init 72 = .ok (.putfield 36, 3) := by decide +kernel
theorem dX6_init_75 : decode cX6_init 75 = .ok (.aload_n 0, 1) := by decide +kernel
theorem dX6_init_76 : decode cX6_init 76 = .ok (.bipush 90, 2) := by decide +kernel
theorem dX6_init_78 : decode cX6_init 78 = .ok (.newarray .int, 2) := by decide +kernel
theorem dX6_init_80 : decode cX6_init 80 = .ok (.putfield 39, 3) := by decide +kernel
theorem dX6_init_83 : decode cX6_init 83 = .ok (.aload_n 0, 1) := by decide +kernel
theorem dX6_init_84 : decode cX6_init 84 = .ok (.bipush 90, 2) := by decide +kernel
theorem dX6_init_86 : decode cX6_init 86 = .ok (.newarray .int, 2) := by decide +kernel
theorem dX6_init_88 : decode cX6_init 88 = .ok (.putfield 42, 3) := by decide +kernel
theorem dX6_init_91 : decode cX6_init 91 = .ok (.aload_n 0, 1) := by decide +kernel
theorem dX6_init_92 : decode cX6_init 92 = .ok (.bipush 56, 2) := by decide +kernel
theorem dX6_init_94 : decode cX6_init 94 = .ok (.newarray .int, 2) := by decide +kernel
theorem dX6_init_96 : decode cX6_init 96 = .ok (.putfield 45, 3) := by decide +kernel
theorem dX6_init_99 : decode cX6_init 99 = .ok (.aload_n 0, 1) := by decide +kernel
theorem dX6_init_100 : decode cX6_init 100 = .ok (.bipush 6, 2) := by decide +kernel
theorem dX6_init_102 : decode cX6_init 102 = .ok (.newarray .int, 2) := by decide +kernel
theorem dX6_init_104 : decode cX6_init 104 = .ok (.putfield 48, 3) := by decide +kernel
theorem dX6_init_107 : decode cX6_init 107 = .ok (.aload_n 0, 1) := by decide +kernel
theorem dX6_init_108 : decode cX6_init 108 = .ok (.bipush 6, 2) := by decide +kernel
theorem dX6_init_110 : decode cX6_init 110 = .ok (.newarray .int, 2) := by decide +kernel
theorem dX6_init_112 : decode cX6_init 112 = .ok (.putfield 51, 3) := by decide +kernel
theorem dX6_init_115 : decode cX6_init 115 = .ok (.aload_n 0, 1) := by decide +kernel
theorem dX6_init_116 : decode cX6_init 116 = .ok (.bipush 67, 2) := by decide +kernel
theorem dX6_init_118 : decode cX6_init 118 = .ok (.newarray .int, 2) := by decide +kernel
theorem dX6_init_120 : decode cX6_init 120 = .ok (.putfield 54, 3) := by decide +kernel
theorem dX6_init_123 : decode cX6_init 123 = .ok (.aload_n 0, 1) := by decide +kernel
theorem dX6_init_124 : decode cX6_init 124 = .ok (.bipush 6, 2) := by decide +kernel
theorem dX6_init_126 : decode cX6_init 126 = .ok (.putfield 57, 3) := by decide +kernel
theorem dX6_init_129 : decode cX6_init 129 = .ok (.aload_n 0, 1) := by decide +kernel
theorem dX6_init_130 : decode cX6_init 130 = .ok (.bipush 55, 2) := by decide +kernel
theorem dX6_init_132 : decode cX6_init 132 = .ok (.putfield 61, 3) := by decide +kernel
theorem dX6_init_135 : decode cX6_init 135 = .ok (.aload_n 0, 1) := by decide +kernel
theorem dX6_init_136 : decode cX6_init 136 = .ok (.iconst 2, 1) := by decide +kernel
theorem dX6_init_137 : decode cX6_init 137 = .ok (.putfield 64, 3) := by decide +kernel
theorem dX6_init_140 : decode cX6_init 140 = .ok (.aload_n 0, 1) := by decide +kernel
theorem dX6_init_141 : decode cX6_init 141 = .ok (.iconst 1, 1) := by decide +kernel
theorem dX6_init_142 : decode cX6_init 142 = .ok (.putfield 67, 3) := by decide +kernel
theorem dX6_init_145 : decode cX6_init 145 = .ok (.iconst 0, 1) := by decide +kernel
theorem dX6_init_146 : decode cX6_init 146 = .ok (.istore_n 1, 1) := by decide +kernel
theorem dX6_init_147 : decode cX6_init 147 = .ok (.iload_n 1, 1) := by decide +kernel
theorem dX6_init_148 : decode cX6_init 148 = .ok (.bipush 8, 2) := by decide +kernel
theorem dX6_init_150 : decode cX6_init 150 = .ok (.if_icmp .ge 16, 3) := by decide +kernel
theorem dX6_init_153 : decode cX6_init 153 = .ok (.aload_n 0, 1) := by decide +kernel
theorem dX6_init_154 : decode cX6_init 154 = .ok (.getfield 26, 3) := by decide +kernel
theorem dX6_init_157 : decode cX6_init 157 = .ok (.iload_n 1, 1) := by decide +kernel
theorem dX6_init_158 : decode cX6_init 158 = .ok (.iconst (-1), 1) := by decide +kernel
theorem dX6_init_159 : decode cX6_init 159 = .ok (.iastore, 1) := by decide +kernel
theorem dX6_init_160 : decode cX6_init 160 = .ok (.iinc 1 1, 3) := by decide +kernel
theorem dX6_init_163 : decode cX6_init 163 = .ok (.goto (-16), 3) := by decide +kernel
theorem dX6_init_166 : decode cX6_init 166 = .ok (.return_, 1) := by decide +kernel
theorem dX6_no_0 : decode cX6_no 0 = .ok (.aload_n 0, 1) := by decide +kernel
theorem dX6_no_1 : decode cX6_no 1 = .ok (.getfield 36, 3) := by decide +kernel
theorem dX6_no_4 : decode cX6_no 4 = .ok (.iload_n 1, 1) := by decide +kernel
theorem dX6_no_5 : decode cX6_no 5 = .ok (.ineg, 1) := by decide +kernel
theorem dX6_no_6 : decode cX6_no 6 = .ok (.dup2, 1) := by decide +kernel
theorem dX6_no_7 : decode cX6_no 7 = .ok (.iaload, 1) := by decide +kernel
theorem dX6_no_8 : decode cX6_no 8 = .ok (.iconst 1, 1) := by decide +kernel
theorem dX6_no_9 : decode cX6_no 9 = .ok (.iadd, 1) := by decide +kernel
theorem dX6_no_10 : decode cX6_no 10 = .ok (.iastore, 1) := by decide +kernel
theorem dX6_no_11 : decode cX6_no 11 = .ok (.iload_n 1, 1) := by decide +kernel
theorem dX6_no_12 : decode cX6_no 12 = .ok (.ireturn, 1) := by decide +kernel
theorem dX6_within_0 : decode cX6_within 0 = .ok (.iload_n 0, 1) := by decide +kernel
theorem dX6_within_1 : decode cX6_within 1 = .ok (.iload_n 1, 1) := by decide +kernel
theorem dX6_within_2 : decode cX6_within 2 = .ok (.if_icmp .lt 12, 3) := by decide +kernel
theorem dX6_within_5 : decode cX6_within 5 = .ok (.iload_n 0, 1) := by decide +kernel
theorem dX6_within_6 : decode cX6_within 6 = .ok (.iload_n 2, 1) := by decide +kernel
theorem dX6_within_7 : decode cX6_within 7 = .ok (.if_icmp .gt 7, 3) := by decide +kernel
theorem dX6_within_10 : decode cX6_within 10 = .ok (.iconst 1, 1) := by decide +kernel
theorem dX6_within_11 : decode cX6_within 11 = .ok (.goto 4, 3) := by decide +kernel
theorem dX6_within_14 : decode cX6_within 14 = .ok (.iconst 0, 1) := by decide +kernel
theorem dX6_within_15 : decode cX6_within 15 = .ok (.ireturn, 1) := by decide +kernel
theorem dX6_isCell_0 : decode cX6_isCell 0 = .ok (.lload_n 1, 1) := by decide +kernel
theorem dX6_isCell_1 : decode cX6_isCell 1 = .ok (.lconst 0, 1) := by decide +kernel
theorem dX6_isCell_2 : decode cX6_isCell 2 = .ok (.lcmp, 1) := by decide +kernel
theorem dX6_isCell_3 : decode cX6_isCell 3 = .ok (.ifCond .lt 35, 3) := by decide +kernel
theorem dX6_isCell_6 : decode cX6_isCell 6 = .ok (.lload_n 1, 1) := by decide +kernel
theorem dX6_isCell_7 : decode cX6_isCell 7 = .ok (.ldc2_w 70, 3) := by decide +kernel
theorem dX6_isCell_10 : decode cX6_isCell 10 = .ok (.ldiv, 1) := by decide +kernel
theorem dX6_isCell_11 : decode cX6_isCell 11 = .ok (.aload_n 0, 1) := by decide +kernel
theorem dX6_isCell_12 : decode cX6_isCell 12 = .ok (.getfield 57, 3) := by decide +kernel
theorem dX6_isCell_15 : decode cX6_isCell 15 = .ok (.i2l, 1) := by decide +kernel
theorem dX6_isCell_16 : decode cX6_isCell 16 = .ok (.lcmp, 1) := by decide +kernel
theorem dX6_isCell_17 : decode cX6_isCell 17 = .ok (.ifCond .ge 21, 3) := by decide +kernel
theorem dX6_isCell_20 : decode cX6_isCell 20 = .ok (.lload_n 1, 1) := by decide +kernel
theorem dX6_isCell_21 : decode cX6_isCell 21 = .ok (.ldc2_w 70, 3) := by decide +kernel
theorem dX6_isCell_24 : decode cX6_isCell 24 = .ok (.lrem, 1) := by decide +kernel
theorem dX6_isCell_25 : decode cX6_isCell 25 = .ok (.aload_n 0, 1) := by decide +kernel
theorem dX6_isCell_26 : decode cX6_isCell 26 = .ok (.getfield 57, 3) := by decide +kernel
theorem dX6_isCell_29 : decode cX6_isCell 29 = .ok (.i2l, 1) := by decide +kernel
theorem dX6_isCell_30 : decode cX6_isCell 30 = .ok (.lcmp, 1) := by decide +kernel
theorem dX6_isCell_31 : decode cX6_isCell 31 = .ok (.ifCond .ge 7, 3) := by decide +kernel
theorem dX6_isCell_34 : decode cX6_isCell 34 = .ok (.iconst 1, 1) := by decide +kernel
theorem dX6_isCell_35 : decode cX6_isCell 35 = .ok (.goto 4, 3) := by decide +kernel
theorem dX6_isCell_38 : decode cX6_isCell 38 = .ok (.iconst 0, 1) := by decide +kernel
theorem dX6_isCell_39 : decode cX6_isCell 39 = .ok (.ireturn, 1) := by decide +kernel
theorem dX6_isEwe_0 : decode cX6_isEwe 0 = .ok (.iload_n 1, 1) := by decide +kernel
theorem dX6_isEwe_1 : decode cX6_isEwe 1 = .ok (.iconst 0, 1) := by decide +kernel
theorem dX6_isEwe_2 : decode cX6_isEwe 2 = .ok (.aload_n 0, 1) := by decide +kernel
theorem dX6_isEwe_3 : decode cX6_isEwe 3 = .ok (.getfield 72, 3) := by decide +kernel
theorem dX6_isEwe_6 : decode cX6_isEwe 6 = .ok (.iconst 1, 1) := by decide +kernel
theorem dX6_isEwe_7 : decode cX6_isEwe 7 = .ok (.isub, 1) := by decide +kernel
theorem dX6_isEwe_8 : decode cX6_isEwe 8 = .ok (.invokestatic 75, 3) := by decide +kernel
theorem dX6_isEwe_11 : decode cX6_isEwe 11 = .ok (.ireturn, 1) := by decide +kernel
theorem dX6_isShelf_0 : decode cX6_isShelf 0 = .ok (.iload_n 0, 1) := by decide +kernel
theorem dX6_isShelf_1 : decode cX6_isShelf 1 = .ok (.iconst 0, 1) := by decide +kernel
theorem dX6_isShelf_2 : decode cX6_isShelf 2 = .ok (.bipush 7, 2) := by decide +kernel
theorem dX6_isShelf_4 : decode cX6_isShelf 4 = .ok (.invokestatic 75, 3) := by decide +kernel
theorem dX6_isShelf_7 : decode cX6_isShelf 7 = .ok (.ireturn, 1) := by decide +kernel
theorem dX6_isRow_0 : decode cX6_isRow 0 = .ok (.aload_n 0, 1) := by decide +kernel
theorem dX6_isRow_1 : decode cX6_isRow 1 = .ok (.getfield 26, 3) := by decide +kernel
theorem dX6_isRow_4 : decode cX6_isRow 4 = .ok (.iload_n 1, 1) := by decide +kernel
theorem dX6_isRow_5 : decode cX6_isRow 5 = .ok (.iaload, 1) := by decide +kernel
theorem dX6_isRow_6 : decode cX6_isRow 6 = .ok (.iconst 0, 1) := by decide +kernel
theorem dX6_isRow_7 : decode cX6_isRow 7 = .ok (.iconst 4, 1) := by decide +kernel
theorem dX6_isRow_8 : decode cX6_isRow 8 = .ok (.invokestatic 75, 3) := by decide +kernel
theorem dX6_isRow_11 : decode cX6_isRow 11 = .ok (.ireturn, 1) := by decide +kernel
theorem dX6_row_0 : decode cX6_row 0 = .ok (.iload_n 1, 1) := by decide +kernel
theorem dX6_row_1 : decode cX6_row 1 = .ok (.invokestatic 79, 3) := by decide +kernel
theorem dX6_row_4 : decode cX6_row 4 = .ok (.ifCond .eq 22, 3) := by decide +kernel
theorem dX6_row_7 : decode cX6_row 7 = .ok (.iload_n 2, 1) := by decide +kernel
theorem dX6_row_8 : decode cX6_row 8 = .ok (.iconst 0, 1) := by decide +kernel
theorem dX6_row_9 : decode cX6_row 9 = .ok (.iconst 4, 1) := by decide +kernel
theorem dX6_row_10 : decode cX6_row 10 = .ok (.invokestatic 75, 3) := by decide +kernel
theorem dX6_row_13 : decode cX6_row 13 = .ok (.ifCond .eq 13, 3) := by decide +kernel
theorem dX6_row_16 : decode cX6_row 16 = .ok (.iload_n 3, 1) := by decide +kernel
theorem dX6_row_17 : decode cX6_row 17 = .ok (.iconst 0, 1) := by decide +kernel
theorem dX6_row_18 : decode cX6_row 18 = .ok (.bipush 40, 2) := by decide +kernel
theorem dX6_row_20 : decode cX6_row 20 = .ok (.invokestatic 75, 3) := by decide +kernel
theorem dX6_row_23 : decode cX6_row 23 = .ok (.ifCond .ne 10, 3) := by decide +kernel
theorem dX6_row_26 : decode cX6_row 26 = .ok (.aload_n 0, 1) := by decide +kernel
theorem dX6_row_27 : decode cX6_row 27 = .ok (.bipush (-2), 2) := by decide +kernel
theorem dX6_row_29 : decode cX6_row 29 = .ok (.invokevirtual 83, 3) := by decide +kernel
theorem dX6_row_32 : decode cX6_row 32 = .ok (.ireturn, 1) := by decide +kernel
theorem dX6_row_33 : decode cX6_row 33 = .ok (.aload_n 0, 1) := by decide +kernel
theorem dX6_row_34 : decode cX6_row 34 = .ok (.getfield 26, 3) := by decide +kernel
theorem dX6_row_37 : decode cX6_row 37 = .ok (.iload_n 1, 1) := by decide +kernel
theorem dX6_row_38 : decode cX6_row 38 = .ok (.iload_n 2, 1) := by decide +kernel
theorem dX6_row_39 : decode cX6_row 39 = .ok (.iastore, 1) := by decide +kernel
theorem dX6_row_40 : decode cX6_row 40 = .ok (.aload_n 0, 1) := by decide +kernel
theorem dX6_row_41 : decode cX6_row 41 = .ok (.getfield 29, 3) := by decide +kernel
theorem dX6_row_44 : decode cX6_row 44 = .ok (.iload_n 1, 1) := by decide +kernel
theorem dX6_row_45 : decode cX6_row 45 = .ok (.iload_n 3, 1) := by decide +kernel
theorem dX6_row_46 : decode cX6_row 46 = .ok (.iastore, 1) := by decide +kernel
theorem dX6_row_47 : decode cX6_row 47 = .ok (.iconst 0, 1) := by decide +kernel
theorem dX6_row_48 : decode cX6_row 48 = .ok (.istore 4, 2) := by decide +kernel
theorem dX6_row_50 : decode cX6_row 50 = .ok (.iload 4, 2) := by decide +kernel
theorem dX6_row_52 : decode cX6_row 52 = .ok (.bipush 40, 2) := by decide +kernel
theorem dX6_row_54 : decode cX6_row 54 = .ok (.if_icmp .ge 22, 3) := by decide +kernel
theorem dX6_row_57 : decode cX6_row 57 = .ok (.aload_n 0, 1) := by decide +kernel
theorem dX6_row_58 : decode cX6_row 58 = .ok (.getfield 32, 3) := by decide +kernel
theorem dX6_row_61 : decode cX6_row 61 = .ok (.bipush 40, 2) := by decide +kernel
theorem dX6_row_63 : decode cX6_row 63 = .ok (.iload_n 1, 1) := by decide +kernel
theorem dX6_row_64 : decode cX6_row 64 = .ok (.imul, 1) := by decide +kernel
theorem dX6_row_65 : decode cX6_row 65 = .ok (.iload 4, 2) := by decide +kernel
theorem dX6_row_67 : decode cX6_row 67 = .ok (.iadd, 1) := by decide +kernel
theorem dX6_row_68 : decode cX6_row 68 = .ok (.lconst 0, 1) := by decide +kernel
theorem dX6_row_69 : decode cX6_row 69 = .ok (.lastore, 1) := by decide +kernel
theorem dX6_row_70 : decode cX6_row 70 = .ok (.iinc 4 1, 3) := by decide +kernel
theorem dX6_row_73 : decode cX6_row 73 = .ok (.goto (-23), 3) := by decide +kernel
theorem dX6_row_76 : decode cX6_row 76 = .ok (.iconst 1, 1) := by decide +kernel
theorem dX6_row_77 : decode cX6_row 77 = .ok (.ireturn, 1) := by decide +kernel
theorem dX6_noRow_0 : decode cX6_noRow 0 = .ok (.aload_n 0, 1) := by decide +kernel
theorem dX6_noRow_1 : decode cX6_noRow 1 = .ok (.getfield 26, 3) := by decide +kernel
theorem dX6_noRow_4 : decode cX6_noRow 4 = .ok (.iload_n 1, 1) := by decide +kernel
theorem dX6_noRow_5 : decode cX6_noRow 5 = .ok (.iaload, 1) := by decide +kernel
theorem dX6_noRow_6 : decode cX6_noRow 6 = .ok (.bipush 10, 2) := by decide +kernel
theorem dX6_noRow_8 : decode cX6_noRow 8 = .ok (.if_icmp .lt 8, 3) := by decide +kernel
theorem dX6_noRow_11 : decode cX6_noRow 11 = .ok (.bipush (-3), 2) := by decide +kernel
theorem dX6_noRow_13 : decode cX6_noRow 13 = .ok (.goto 18, 3) := by decide +kernel
theorem dX6_noRow_16 : decode cX6_noRow 16 = .ok (.aload_n 0, 1) := by decide +kernel
theorem dX6_noRow_17 : decode cX6_noRow 17 = .ok (.getfield 26, 3) := by decide +kernel
theorem dX6_noRow_20 : decode cX6_noRow 20 = .ok (.iload_n 1, 1) := by decide +kernel
theorem dX6_noRow_21 : decode cX6_noRow 21 = .ok (.iaload, 1) := by decide +kernel
theorem dX6_noRow_22 : decode cX6_noRow 22 = .ok (.ifCond .ge 8, 3) := by decide +kernel
theorem dX6_noRow_25 : decode cX6_noRow 25 = .ok (.bipush (-4), 2) := by decide +kernel
theorem dX6_noRow_27 : decode cX6_noRow 27 = .ok (.goto 4, 3) := by decide +kernel
theorem dX6_noRow_30 : decode cX6_noRow 30 = .ok (.iconst 0, 1) := by decide +kernel
theorem dX6_noRow_31 : decode cX6_noRow 31 = .ok (.ireturn, 1) := by decide +kernel
theorem dX6_kept_0 : decode cX6_kept 0 = .ok (.iload_n 0, 1) := by decide +kernel
theorem dX6_kept_1 : decode cX6_kept 1 = .ok (.tableswitch 47 0 3 #[31, 36, 41, 45], 31) := by decide +kernel
theorem dX6_kept_32 : decode cX6_kept 32 = .ok (.lload_n 1, 1) := by decide +kernel
theorem dX6_kept_33 : decode cX6_kept 33 = .ok (.l2i, 1) := by decide +kernel
theorem dX6_kept_34 : decode cX6_kept 34 = .ok (.i2b, 1) := by decide +kernel
theorem dX6_kept_35 : decode cX6_kept 35 = .ok (.i2l, 1) := by decide +kernel
theorem dX6_kept_36 : decode cX6_kept 36 = .ok (.lreturn, 1) := by decide +kernel
theorem dX6_kept_37 : decode cX6_kept 37 = .ok (.lload_n 1, 1) := by decide +kernel
theorem dX6_kept_38 : decode cX6_kept 38 = .ok (.l2i, 1) := by decide +kernel
theorem dX6_kept_39 : decode cX6_kept 39 = .ok (.i2s, 1) := by decide +kernel
theorem dX6_kept_40 : decode cX6_kept 40 = .ok (.i2l, 1) := by decide +kernel
theorem dX6_kept_41 : decode cX6_kept 41 = .ok (.lreturn, 1) := by decide +kernel
theorem dX6_kept_42 : decode cX6_kept 42 = .ok (.lload_n 1, 1) := by decide +kernel
theorem dX6_kept_43 : decode cX6_kept 43 = .ok (.l2i, 1) := by decide +kernel
theorem dX6_kept_44 : decode cX6_kept 44 = .ok (.i2l, 1) := by decide +kernel
theorem dX6_kept_45 : decode cX6_kept 45 = .ok (.lreturn, 1) := by decide +kernel
theorem dX6_kept_46 : decode cX6_kept 46 = .ok (.lload_n 1, 1) := by decide +kernel
theorem dX6_kept_47 : decode cX6_kept 47 = .ok (.lreturn, 1) := by decide +kernel
theorem dX6_kept_48 : decode cX6_kept 48 = .ok (.lload_n 1, 1) := by decide +kernel
theorem dX6_kept_49 : decode cX6_kept 49 = .ok (.lconst 0, 1) := by decide +kernel
theorem dX6_kept_50 : decode cX6_kept 50 = .ok (.lcmp, 1) := by decide +kernel
theorem dX6_kept_51 : decode cX6_kept 51 = .ok (.ifCond .eq 7, 3) := by decide +kernel
theorem dX6_kept_54 : decode cX6_kept 54 = .ok (.lconst 1, 1) := by decide +kernel
theorem dX6_kept_55 : decode cX6_kept 55 = .ok (.goto 4, 3) := by decide +kernel
theorem dX6_kept_58 : decode cX6_kept 58 = .ok (.lconst 0, 1) := by decide +kernel
theorem dX6_kept_59 : decode cX6_kept 59 = .ok (.lreturn, 1) := by decide +kernel
theorem dX6_set_0 : decode cX6_set 0 = .ok (.iload_n 1, 1) := by decide +kernel
theorem dX6_set_1 : decode cX6_set 1 = .ok (.invokestatic 79, 3) := by decide +kernel
theorem dX6_set_4 : decode cX6_set 4 = .ok (.ifCond .ne 10, 3) := by decide +kernel
theorem dX6_set_7 : decode cX6_set 7 = .ok (.aload_n 0, 1) := by decide +kernel
theorem dX6_set_8 : decode cX6_set 8 = .ok (.bipush (-2), 2) := by decide +kernel
theorem dX6_set_10 : decode cX6_set 10 = .ok (.invokevirtual 83, 3) := by decide +kernel
theorem dX6_set_13 : decode cX6_set 13 = .ok (.ireturn, 1) := by decide +kernel
theorem dX6_set_14 : decode cX6_set 14 = .ok (.aload_n 0, 1) := by decide +kernel
theorem dX6_set_15 : decode cX6_set 15 = .ok (.iload_n 1, 1) := by decide +kernel
theorem dX6_set_16 : decode cX6_set 16 = .ok (.invokevirtual 87, 3) := by decide +kernel
theorem dX6_set_19 : decode cX6_set 19 = .ok (.ifCond .ne 13, 3) := by decide +kernel
theorem dX6_set_22 : decode cX6_set 22 = .ok (.aload_n 0, 1) := by decide +kernel
theorem dX6_set_23 : decode cX6_set 23 = .ok (.aload_n 0, 1) := by decide +kernel
theorem dX6_set_24 : decode cX6_set 24 = .ok (.iload_n 1, 1) := by decide +kernel
theorem dX6_set_25 : decode cX6_set 25 = .ok (.invokevirtual 90, 3) := by decide +kernel
theorem dX6_set_28 : decode cX6_set 28 = .ok (.invokevirtual 83, 3) := by decide +kernel
theorem dX6_set_31 : decode cX6_set 31 = .ok (.ireturn, 1) := by decide +kernel
theorem dX6_set_32 : decode cX6_set 32 = .ok (.iload_n 2, 1) := by decide +kernel
theorem dX6_set_33 : decode cX6_set 33 = .ok (.iconst 0, 1) := by decide +kernel
theorem dX6_set_34 : decode cX6_set 34 = .ok (.aload_n 0, 1) := by decide +kernel
theorem dX6_set_35 : decode cX6_set 35 = .ok (.getfield 29, 3) := by decide +kernel
theorem dX6_set_38 : decode cX6_set 38 = .ok (.iload_n 1, 1) := by decide +kernel
theorem dX6_set_39 : decode cX6_set 39 = .ok (.iaload, 1) := by decide +kernel
theorem dX6_set_40 : decode cX6_set 40 = .ok (.iconst 1, 1) := by decide +kernel
theorem dX6_set_41 : decode cX6_set 41 = .ok (.isub, 1) := by decide +kernel
theorem dX6_set_42 : decode cX6_set 42 = .ok (.invokestatic 75, 3) := by decide +kernel
theorem dX6_set_45 : decode cX6_set 45 = .ok (.ifCond .ne 10, 3) := by decide +kernel
theorem dX6_set_48 : decode cX6_set 48 = .ok (.aload_n 0, 1) := by decide +kernel
theorem dX6_set_49 : decode cX6_set 49 = .ok (.bipush (-2), 2) := by decide +kernel
theorem dX6_set_51 : decode cX6_set 51 = .ok (.invokevirtual 83, 3) := by decide +kernel
theorem dX6_set_54 : decode cX6_set 54 = .ok (.ireturn, 1) := by decide +kernel
theorem dX6_set_55 : decode cX6_set 55 = .ok (.aload_n 0, 1) := by decide +kernel
theorem dX6_set_56 : decode cX6_set 56 = .ok (.getfield 32, 3) := by decide +kernel
theorem dX6_set_59 : decode cX6_set 59 = .ok (.bipush 40, 2) := by decide +kernel
theorem dX6_set_61 : decode cX6_set 61 = .ok (.iload_n 1, 1) := by decide +kernel
theorem dX6_set_62 : decode cX6_set 62 = .ok (.imul, 1) := by decide +kernel
theorem dX6_set_63 : decode cX6_set 63 = .ok (.iload_n 2, 1) := by decide +kernel
theorem dX6_set_64 : decode cX6_set 64 = .ok (.iadd, 1) := by decide +kernel
theorem dX6_set_65 : decode cX6_set 65 = .ok (.aload_n 0, 1) := by decide +kernel
theorem dX6_set_66 : decode cX6_set 66 = .ok (.getfield 26, 3) := by decide +kernel
theorem dX6_set_69 : decode cX6_set 69 = .ok (.iload_n 1, 1) := by decide +kernel
theorem dX6_set_70 : decode cX6_set 70 = .ok (.iaload, 1) := by decide +kernel
theorem dX6_set_71 : decode cX6_set 71 = .ok (.lload_n 3, 1) := by decide +kernel
theorem dX6_set_72 : decode cX6_set 72 = .ok (.invokestatic 93, 3) := by decide +kernel
theorem dX6_set_75 : decode cX6_set 75 = .ok (.lastore, 1) := by decide +kernel
theorem dX6_set_76 : decode cX6_set 76 = .ok (.iconst 1, 1) := by decide +kernel
theorem dX6_set_77 : decode cX6_set 77 = .ok (.ireturn, 1) := by decide +kernel
theorem dX6_copy_0 : decode cX6_copy 0 = .ok (.iload_n 1, 1) := by decide +kernel
theorem dX6_copy_1 : decode cX6_copy 1 = .ok (.invokestatic 79, 3) := by decide +kernel
theorem dX6_copy_4 : decode cX6_copy 4 = .ok (.ifCond .eq 10, 3) := by decide +kernel
theorem dX6_copy_7 : decode cX6_copy 7 = .ok (.iload_n 2, 1) := by decide +kernel
theorem dX6_copy_8 : decode cX6_copy 8 = .ok (.invokestatic 79, 3) := by decide +kernel
theorem dX6_copy_11 : decode cX6_copy 11 = .ok (.ifCond .ne 10, 3) := by decide +kernel
theorem dX6_copy_14 : decode cX6_copy 14 = .ok (.aload_n 0, 1) := by decide +kernel
theorem dX6_copy_15 : decode cX6_copy 15 = .ok (.bipush (-2), 2) := by decide +kernel
theorem dX6_copy_17 : decode cX6_copy 17 = .ok (.invokevirtual 83, 3) := by decide +kernel
theorem dX6_copy_20 : decode cX6_copy 20 = .ok (.ireturn, 1) := by decide +kernel
theorem dX6_copy_21 : decode cX6_copy 21 = .ok (.aload_n 0, 1) := by decide +kernel
theorem dX6_copy_22 : decode cX6_copy 22 = .ok (.getfield 26, 3) := by decide +kernel
theorem dX6_copy_25 : decode cX6_copy 25 = .ok (.iload_n 1, 1) := by decide +kernel
theorem dX6_copy_26 : decode cX6_copy 26 = .ok (.iaload, 1) := by decide +kernel
theorem dX6_copy_27 : decode cX6_copy 27 = .ok (.bipush 10, 2) := by decide +kernel
theorem dX6_copy_29 : decode cX6_copy 29 = .ok (.if_icmp .ge 45, 3) := by decide +kernel
theorem dX6_copy_32 : decode cX6_copy 32 = .ok (.aload_n 0, 1) := by decide +kernel
theorem dX6_copy_33 : decode cX6_copy 33 = .ok (.getfield 26, 3) := by decide +kernel
theorem dX6_copy_36 : decode cX6_copy 36 = .ok (.iload_n 2, 1) := by decide +kernel
theorem dX6_copy_37 : decode cX6_copy 37 = .ok (.iaload, 1) := by decide +kernel
theorem dX6_copy_38 : decode cX6_copy 38 = .ok (.bipush 10, 2) := by decide +kernel
theorem dX6_copy_40 : decode cX6_copy 40 = .ok (.if_icmp .ge 34, 3) := by decide +kernel
theorem dX6_copy_43 : decode cX6_copy 43 = .ok (.aload_n 0, 1) := by decide +kernel
theorem dX6_copy_44 : decode cX6_copy 44 = .ok (.iload_n 1, 1) := by decide +kernel
theorem dX6_copy_45 : decode cX6_copy 45 = .ok (.invokevirtual 87, 3) := by decide +kernel
theorem dX6_copy_48 : decode cX6_copy 48 = .ok (.ifCond .eq 33, 3) := by decide +kernel
theorem dX6_copy_51 : decode cX6_copy 51 = .ok (.aload_n 0, 1) := by decide +kernel
theorem dX6_copy_52 : decode cX6_copy 52 = .ok (.iload_n 2, 1) := by decide +kernel
theorem dX6_copy_53 : decode cX6_copy 53 = .ok (.invokevirtual 87, 3) := by decide +kernel
theorem dX6_copy_56 : decode cX6_copy 56 = .ok (.ifCond .eq 25, 3) := by decide +kernel
theorem dX6_copy_59 : decode cX6_copy 59 = .ok (.aload_n 0, 1) := by decide +kernel
theorem dX6_copy_60 : decode cX6_copy 60 = .ok (.getfield 26, 3) := by decide +kernel
theorem dX6_copy_63 : decode cX6_copy 63 = .ok (.iload_n 1, 1) := by decide +kernel
theorem dX6_copy_64 : decode cX6_copy 64 = .ok (.iaload, 1) := by decide +kernel
theorem dX6_copy_65 : decode cX6_copy 65 = .ok (.aload_n 0, 1) := by decide +kernel
theorem dX6_copy_66 : decode cX6_copy 66 = .ok (.getfield 26, 3) := by decide +kernel
theorem dX6_copy_69 : decode cX6_copy 69 = .ok (.iload_n 2, 1) := by decide +kernel
theorem dX6_copy_70 : decode cX6_copy 70 = .ok (.iaload, 1) := by decide +kernel
theorem dX6_copy_71 : decode cX6_copy 71 = .ok (.if_icmp .eq 10, 3) := by decide +kernel
theorem dX6_copy_74 : decode cX6_copy 74 = .ok (.aload_n 0, 1) := by decide +kernel
theorem dX6_copy_75 : decode cX6_copy 75 = .ok (.bipush (-3), 2) := by decide +kernel
theorem dX6_copy_77 : decode cX6_copy 77 = .ok (.invokevirtual 83, 3) := by decide +kernel
theorem dX6_copy_80 : decode cX6_copy 80 = .ok (.ireturn, 1) := by decide +kernel
theorem dX6_copy_81 : decode cX6_copy 81 = .ok (.aload_n 0, 1) := by decide +kernel
theorem dX6_copy_82 : decode cX6_copy 82 = .ok (.getfield 26, 3) := by decide +kernel
theorem dX6_copy_85 : decode cX6_copy 85 = .ok (.iload_n 1, 1) := by decide +kernel
theorem dX6_copy_86 : decode cX6_copy 86 = .ok (.iaload, 1) := by decide +kernel
theorem dX6_copy_87 : decode cX6_copy 87 = .ok (.ifCond .lt 12, 3) := by decide +kernel
theorem dX6_copy_90 : decode cX6_copy 90 = .ok (.aload_n 0, 1) := by decide +kernel
theorem dX6_copy_91 : decode cX6_copy 91 = .ok (.getfield 26, 3) := by decide +kernel
theorem dX6_copy_94 : decode cX6_copy 94 = .ok (.iload_n 2, 1) := by decide +kernel
theorem dX6_copy_95 : decode cX6_copy 95 = .ok (.iaload, 1) := by decide +kernel
theorem dX6_copy_96 : decode cX6_copy 96 = .ok (.ifCond .ge 10, 3) := by decide +kernel
theorem dX6_copy_99 : decode cX6_copy 99 = .ok (.aload_n 0, 1) := by decide +kernel
theorem dX6_copy_100 : decode cX6_copy 100 = .ok (.bipush (-4), 2) := by decide +kernel
theorem dX6_copy_102 : decode cX6_copy 102 = .ok (.invokevirtual 83, 3) := by decide +kernel
theorem dX6_copy_105 : decode cX6_copy 105 = .ok (.ireturn, 1) := by decide +kernel
theorem dX6_copy_106 : decode cX6_copy 106 = .ok (.iload 5, 2) := by decide +kernel
theorem dX6_copy_108 : decode cX6_copy 108 = .ok (.ifCond .lt 47, 3) := by decide +kernel
theorem dX6_copy_111 : decode cX6_copy 111 = .ok (.iload_n 3, 1) := by decide +kernel
theorem dX6_copy_112 : decode cX6_copy 112 = .ok (.ifCond .lt 43, 3) := by decide +kernel
theorem dX6_copy_115 : decode cX6_copy 115 = .ok (.iload 4, 2) := by decide +kernel
theorem dX6_copy_117 : decode cX6_copy 117 = .ok (.ifCond .lt 38, 3) := by decide +kernel
theorem dX6_copy_120 : decode cX6_copy 120 = .ok (.iload_n 3, 1) := by decide +kernel
theorem dX6_copy_121 : decode cX6_copy 121 = .ok (.i2l, 1) := by decide +kernel
theorem dX6_copy_122 : decode cX6_copy 122 = .ok (.iload 5, 2) := by decide +kernel
theorem dX6_copy_124 : decode cX6_copy 124 = .ok (.i2l, 1) := by decide +kernel
theorem dX6_copy_125 : decode cX6_copy 125 = .ok (.ladd, 1) := by decide +kernel
theorem dX6_copy_126 : decode cX6_copy 126 = .ok (.aload_n 0, 1) := by decide +kernel
theorem dX6_copy_127 : decode cX6_copy 127 = .ok (.getfield 29, 3) := by decide +kernel
theorem dX6_copy_130 : decode cX6_copy 130 = .ok (.iload_n 1, 1) := by decide +kernel
theorem dX6_copy_131 : decode cX6_copy 131 = .ok (.iaload, 1) := by decide +kernel
theorem dX6_copy_132 : decode cX6_copy 132 = .ok (.i2l, 1) := by decide +kernel
theorem dX6_copy_133 : decode cX6_copy 133 = .ok (.lcmp, 1) := by decide +kernel
theorem dX6_copy_134 : decode cX6_copy 134 = .ok (.ifCond .gt 21, 3) := by decide +kernel
theorem dX6_copy_137 : decode cX6_copy 137 = .ok (.iload 4, 2) := by decide +kernel
theorem dX6_copy_139 : decode cX6_copy 139 = .ok (.i2l, 1) := by decide +kernel
theorem dX6_copy_140 : decode cX6_copy 140 = .ok (.iload 5, 2) := by decide +kernel
theorem dX6_copy_142 : decode cX6_copy 142 = .ok (.i2l, 1) := by decide +kernel
theorem dX6_copy_143 : decode cX6_copy 143 = .ok (.ladd, 1) := by decide +kernel
theorem dX6_copy_144 : decode cX6_copy 144 = .ok (.aload_n 0, 1) := by decide +kernel
theorem dX6_copy_145 : decode cX6_copy 145 = .ok (.getfield 29, 3) := by decide +kernel
theorem dX6_copy_148 : decode cX6_copy 148 = .ok (.iload_n 2, 1) := by decide +kernel
theorem dX6_copy_149 : decode cX6_copy 149 = .ok (.iaload, 1) := by decide +kernel
theorem dX6_copy_150 : decode cX6_copy 150 = .ok (.i2l, 1) := by decide +kernel
theorem dX6_copy_151 : decode cX6_copy 151 = .ok (.lcmp, 1) := by decide +kernel
theorem dX6_copy_152 : decode cX6_copy 152 = .ok (.ifCond .le 10, 3) := by decide +kernel
theorem dX6_copy_155 : decode cX6_copy 155 = .ok (.aload_n 0, 1) := by decide +kernel
theorem dX6_copy_156 : decode cX6_copy 156 = .ok (.bipush (-2), 2) := by decide +kernel
theorem dX6_copy_158 : decode cX6_copy 158 = .ok (.invokevirtual 83, 3) := by decide +kernel
theorem dX6_copy_161 : decode cX6_copy 161 = .ok (.ireturn, 1) := by decide +kernel
theorem dX6_copy_162 : decode cX6_copy 162 = .ok (.iload_n 1, 1) := by decide +kernel
theorem dX6_copy_163 : decode cX6_copy 163 = .ok (.iload_n 2, 1) := by decide +kernel
theorem dX6_copy_164 : decode cX6_copy 164 = .ok (.if_icmp .ne 58, 3) := by decide +kernel
theorem dX6_copy_167 : decode cX6_copy 167 = .ok (.iload_n 3, 1) := by decide +kernel
theorem dX6_copy_168 : decode cX6_copy 168 = .ok (.iload 4, 2) := by decide +kernel
theorem dX6_copy_170 : decode cX6_copy 170 = .ok (.if_icmp .ge 52, 3) := by decide +kernel
theorem dX6_copy_173 : decode cX6_copy 173 = .ok (.iload 5, 2) := by decide +kernel
theorem dX6_copy_175 : decode cX6_copy 175 = .ok (.iconst 1, 1) := by decide +kernel
theorem dX6_copy_176 : decode cX6_copy 176 = .ok (.isub, 1) := by decide +kernel
theorem dX6_copy_177 : decode cX6_copy 177 = .ok (.istore 6, 2) := by decide +kernel
theorem dX6_copy_179 : decode cX6_copy 179 = .ok (.iload 6, 2) := by decide +kernel
theorem dX6_copy_181 : decode cX6_copy 181 = .ok (.ifCond .lt 38, 3) := by decide +kernel
theorem dX6_copy_184 : decode cX6_copy 184 = .ok (.aload_n 0, 1) := by decide +kernel
theorem dX6_copy_185 : decode cX6_copy 185 = .ok (.getfield 32, 3) := by decide +kernel
theorem dX6_copy_188 : decode cX6_copy 188 = .ok (.bipush 40, 2) := by decide +kernel
theorem dX6_copy_190 : decode cX6_copy 190 = .ok (.iload_n 2, 1) := by decide +kernel
theorem dX6_copy_191 : decode cX6_copy 191 = .ok (.imul, 1) := by decide +kernel
theorem dX6_copy_192 : decode cX6_copy 192 = .ok (.iload 4, 2) := by decide +kernel
theorem dX6_copy_194 : decode cX6_copy 194 = .ok (.iadd, 1) := by decide +kernel
theorem dX6_copy_195 : decode cX6_copy 195 = .ok (.iload 6, 2) := by decide +kernel
theorem dX6_copy_197 : decode cX6_copy 197 = .ok (.iadd, 1) := by decide +kernel
theorem dX6_copy_198 : decode cX6_copy 198 = .ok (.aload_n 0, 1) := by decide +kernel
theorem dX6_copy_199 : decode cX6_copy 199 = .ok (.getfield 32, 3) := by decide +kernel
theorem dX6_copy_202 : decode cX6_copy 202 = .ok (.bipush 40, 2) := by decide +kernel
theorem dX6_copy_204 : decode cX6_copy 204 = .ok (.iload_n 1, 1) := by decide +kernel
theorem dX6_copy_205 : decode cX6_copy 205 = .ok (.imul, 1) := by decide +kernel
theorem dX6_copy_206 : decode cX6_copy 206 = .ok (.iload_n 3, 1) := by decide +kernel
theorem dX6_copy_207 : decode cX6_copy 207 = .ok (.iadd, 1) := by decide +kernel
theorem dX6_copy_208 : decode cX6_copy 208 = .ok (.iload 6, 2) := by decide +kernel
theorem dX6_copy_210 : decode cX6_copy 210 = .ok (.iadd, 1) := by decide +kernel
theorem dX6_copy_211 : decode cX6_copy 211 = .ok (.laload, 1) := by decide +kernel
theorem dX6_copy_212 : decode cX6_copy 212 = .ok (.lastore, 1) := by decide +kernel
theorem dX6_copy_213 : decode cX6_copy 213 = .ok (.iinc 6 (-1), 3) := by decide +kernel
theorem dX6_copy_216 : decode cX6_copy 216 = .ok (.goto (-37), 3) := by decide +kernel
theorem dX6_copy_219 : decode cX6_copy 219 = .ok (.goto 48, 3) := by decide +kernel
theorem dX6_copy_222 : decode cX6_copy 222 = .ok (.iconst 0, 1) := by decide +kernel
theorem dX6_copy_223 : decode cX6_copy 223 = .ok (.istore 6, 2) := by decide +kernel
theorem dX6_copy_225 : decode cX6_copy 225 = .ok (.iload 6, 2) := by decide +kernel
theorem dX6_copy_227 : decode cX6_copy 227 = .ok (.iload 5, 2) := by decide +kernel
theorem dX6_copy_229 : decode cX6_copy 229 = .ok (.if_icmp .ge 38, 3) := by decide +kernel
theorem dX6_copy_232 : decode cX6_copy 232 = .ok (.aload_n 0, 1) := by decide +kernel
theorem dX6_copy_233 : decode cX6_copy 233 = .ok (.getfield 32, 3) := by decide +kernel
theorem dX6_copy_236 : decode cX6_copy 236 = .ok (.bipush 40, 2) := by decide +kernel
theorem dX6_copy_238 : decode cX6_copy 238 = .ok (.iload_n 2, 1) := by decide +kernel
theorem dX6_copy_239 : decode cX6_copy 239 = .ok (.imul, 1) := by decide +kernel
theorem dX6_copy_240 : decode cX6_copy 240 = .ok (.iload 4, 2) := by decide +kernel
theorem dX6_copy_242 : decode cX6_copy 242 = .ok (.iadd, 1) := by decide +kernel
theorem dX6_copy_243 : decode cX6_copy 243 = .ok (.iload 6, 2) := by decide +kernel
theorem dX6_copy_245 : decode cX6_copy 245 = .ok (.iadd, 1) := by decide +kernel
theorem dX6_copy_246 : decode cX6_copy 246 = .ok (.aload_n 0, 1) := by decide +kernel
theorem dX6_copy_247 : decode cX6_copy 247 = .ok (.getfield 32, 3) := by decide +kernel
theorem dX6_copy_250 : decode cX6_copy 250 = .ok (.bipush 40, 2) := by decide +kernel
theorem dX6_copy_252 : decode cX6_copy 252 = .ok (.iload_n 1, 1) := by decide +kernel
theorem dX6_copy_253 : decode cX6_copy 253 = .ok (.imul, 1) := by decide +kernel
theorem dX6_copy_254 : decode cX6_copy 254 = .ok (.iload_n 3, 1) := by decide +kernel
theorem dX6_copy_255 : decode cX6_copy 255 = .ok (.iadd, 1) := by decide +kernel
theorem dX6_copy_256 : decode cX6_copy 256 = .ok (.iload 6, 2) := by decide +kernel
theorem dX6_copy_258 : decode cX6_copy 258 = .ok (.iadd, 1) := by decide +kernel
theorem dX6_copy_259 : decode cX6_copy 259 = .ok (.laload, 1) := by decide +kernel
theorem dX6_copy_260 : decode cX6_copy 260 = .ok (.lastore, 1) := by decide +kernel
theorem dX6_copy_261 : decode cX6_copy 261 = .ok (.iinc 6 1, 3) := by decide +kernel
theorem dX6_copy_264 : decode cX6_copy 264 = .ok (.goto (-39), 3) := by decide +kernel
theorem dX6_copy_267 : decode cX6_copy 267 = .ok (.iload 5, 2) := by decide +kernel
theorem dX6_copy_269 : decode cX6_copy 269 = .ok (.ireturn, 1) := by decide +kernel
theorem dX6_element_0 : decode cX6_element 0 = .ok (.iload_n 1, 1) := by decide +kernel
theorem dX6_element_1 : decode cX6_element 1 = .ok (.invokestatic 79, 3) := by decide +kernel
theorem dX6_element_4 : decode cX6_element 4 = .ok (.ifCond .eq 41, 3) := by decide +kernel
theorem dX6_element_7 : decode cX6_element 7 = .ok (.aload_n 0, 1) := by decide +kernel
theorem dX6_element_8 : decode cX6_element 8 = .ok (.iload_n 1, 1) := by decide +kernel
theorem dX6_element_9 : decode cX6_element 9 = .ok (.invokevirtual 87, 3) := by decide +kernel
theorem dX6_element_12 : decode cX6_element 12 = .ok (.ifCond .eq 33, 3) := by decide +kernel
theorem dX6_element_15 : decode cX6_element 15 = .ok (.iload_n 2, 1) := by decide +kernel
theorem dX6_element_16 : decode cX6_element 16 = .ok (.iconst 0, 1) := by decide +kernel
theorem dX6_element_17 : decode cX6_element 17 = .ok (.aload_n 0, 1) := by decide +kernel
theorem dX6_element_18 : decode cX6_element 18 = .ok (.getfield 29, 3) := by decide +kernel
theorem dX6_element_21 : decode cX6_element 21 = .ok (.iload_n 1, 1) := by decide +kernel
theorem dX6_element_22 : decode cX6_element 22 = .ok (.iaload, 1) := by decide +kernel
theorem dX6_element_23 : decode cX6_element 23 = .ok (.iconst 1, 1) := by decide +kernel
theorem dX6_element_24 : decode cX6_element 24 = .ok (.isub, 1) := by decide +kernel
theorem dX6_element_25 : decode cX6_element 25 = .ok (.invokestatic 75, 3) := by decide +kernel
theorem dX6_element_28 : decode cX6_element 28 = .ok (.ifCond .eq 17, 3) := by decide +kernel
theorem dX6_element_31 : decode cX6_element 31 = .ok (.aload_n 0, 1) := by decide +kernel
theorem dX6_element_32 : decode cX6_element 32 = .ok (.getfield 32, 3) := by decide +kernel
theorem dX6_element_35 : decode cX6_element 35 = .ok (.bipush 40, 2) := by decide +kernel
theorem dX6_element_37 : decode cX6_element 37 = .ok (.iload_n 1, 1) := by decide +kernel
theorem dX6_element_38 : decode cX6_element 38 = .ok (.imul, 1) := by decide +kernel
theorem dX6_element_39 : decode cX6_element 39 = .ok (.iload_n 2, 1) := by decide +kernel
theorem dX6_element_40 : decode cX6_element 40 = .ok (.iadd, 1) := by decide +kernel
theorem dX6_element_41 : decode cX6_element 41 = .ok (.laload, 1) := by decide +kernel
theorem dX6_element_42 : decode cX6_element 42 = .ok (.goto 4, 3) := by decide +kernel
theorem dX6_element_45 : decode cX6_element 45 = .ok (.lconst 0, 1) := by decide +kernel
theorem dX6_element_46 : decode cX6_element 46 = .ok (.lreturn, 1) := by decide +kernel
theorem dX6_holds_0 : decode cX6_holds 0 = .ok (.iload_n 1, 1) := by decide +kernel
theorem dX6_holds_1 : decode cX6_holds 1 = .ok (.invokestatic 79, 3) := by decide +kernel
theorem dX6_holds_4 : decode cX6_holds 4 = .ok (.ifCond .eq 12, 3) := by decide +kernel
theorem dX6_holds_7 : decode cX6_holds 7 = .ok (.aload_n 0, 1) := by decide +kernel
theorem dX6_holds_8 : decode cX6_holds 8 = .ok (.getfield 26, 3) := by decide +kernel
theorem dX6_holds_11 : decode cX6_holds 11 = .ok (.iload_n 1, 1) := by decide +kernel
theorem dX6_holds_12 : decode cX6_holds 12 = .ok (.iaload, 1) := by decide +kernel
theorem dX6_holds_13 : decode cX6_holds 13 = .ok (.goto 4, 3) := by decide +kernel
theorem dX6_holds_16 : decode cX6_holds 16 = .ok (.iconst (-1), 1) := by decide +kernel
theorem dX6_holds_17 : decode cX6_holds 17 = .ok (.ireturn, 1) := by decide +kernel
theorem dX6_show_0 : decode cX6_show 0 = .ok (.iload_n 1, 1) := by decide +kernel
theorem dX6_show_1 : decode cX6_show 1 = .ok (.invokestatic 79, 3) := by decide +kernel
theorem dX6_show_4 : decode cX6_show 4 = .ok (.ifCond .eq 16, 3) := by decide +kernel
theorem dX6_show_7 : decode cX6_show 7 = .ok (.iload_n 2, 1) := by decide +kernel
theorem dX6_show_8 : decode cX6_show 8 = .ok (.iconst (-1), 1) := by decide +kernel
theorem dX6_show_9 : decode cX6_show 9 = .ok (.if_icmp .eq 18, 3) := by decide +kernel
theorem dX6_show_12 : decode cX6_show 12 = .ok (.aload_n 0, 1) := by decide +kernel
theorem dX6_show_13 : decode cX6_show 13 = .ok (.iload_n 2, 1) := by decide +kernel
theorem dX6_show_14 : decode cX6_show 14 = .ok (.invokevirtual 97, 3) := by decide +kernel
theorem dX6_show_17 : decode cX6_show 17 = .ok (.ifCond .ne 10, 3) := by decide +kernel
theorem dX6_show_20 : decode cX6_show 20 = .ok (.aload_n 0, 1) := by decide +kernel
theorem dX6_show_21 : decode cX6_show 21 = .ok (.bipush (-2), 2) := by decide +kernel
theorem dX6_show_23 : decode cX6_show 23 = .ok (.invokevirtual 83, 3) := by decide +kernel
theorem dX6_show_26 : decode cX6_show 26 = .ok (.ireturn, 1) := by decide +kernel
theorem dX6_show_27 : decode cX6_show 27 = .ok (.aload_n 0, 1) := by decide +kernel
theorem dX6_show_28 : decode cX6_show 28 = .ok (.getfield 26, 3) := by decide +kernel
theorem dX6_show_31 : decode cX6_show 31 = .ok (.iload_n 1, 1) := by decide +kernel
theorem dX6_show_32 : decode cX6_show 32 = .ok (.iload_n 2, 1) := by decide +kernel
theorem dX6_show_33 : decode cX6_show 33 = .ok (.iconst (-1), 1) := by decide +kernel
theorem dX6_show_34 : decode cX6_show 34 = .ok (.if_icmp .ne 7, 3) := by decide +kernel
theorem dX6_show_37 : decode cX6_show 37 = .ok (.iconst (-1), 1) := by decide +kernel
theorem dX6_show_38 : decode cX6_show 38 = .ok (.goto 7, 3) := by decide +kernel
theorem dX6_show_41 : decode cX6_show 41 = .ok (.bipush 10, 2) := by decide +kernel
theorem dX6_show_43 : decode cX6_show 43 = .ok (.iload_n 2, 1) := by decide +kernel
theorem dX6_show_44 : decode cX6_show 44 = .ok (.iadd, 1) := by decide +kernel
theorem dX6_show_45 : decode cX6_show 45 = .ok (.iastore, 1) := by decide +kernel
theorem dX6_show_46 : decode cX6_show 46 = .ok (.iconst 1, 1) := by decide +kernel
theorem dX6_show_47 : decode cX6_show 47 = .ok (.ireturn, 1) := by decide +kernel
theorem dX6_isUnder_0 : decode cX6_isUnder 0 = .ok (.iload_n 1, 1) := by decide +kernel
theorem dX6_isUnder_1 : decode cX6_isUnder 1 = .ok (.ifCond .eq 28, 3) := by decide +kernel
theorem dX6_isUnder_4 : decode cX6_isUnder 4 = .ok (.iload_n 0, 1) := by decide +kernel
theorem dX6_isUnder_5 : decode cX6_isUnder 5 = .ok (.iload_n 1, 1) := by decide +kernel
theorem dX6_isUnder_6 : decode cX6_isUnder 6 = .ok (.if_icmp .eq 23, 3) := by decide +kernel
theorem dX6_isUnder_9 : decode cX6_isUnder 9 = .ok (.iload_n 0, 1) := by decide +kernel
theorem dX6_isUnder_10 : decode cX6_isUnder 10 = .ok (.iconst 3, 1) := by decide +kernel
theorem dX6_isUnder_11 : decode cX6_isUnder 11 = .ok (.if_icmp .ne 8, 3) := by decide +kernel
theorem dX6_isUnder_14 : decode cX6_isUnder 14 = .ok (.iload_n 1, 1) := by decide +kernel
theorem dX6_isUnder_15 : decode cX6_isUnder 15 = .ok (.iconst 1, 1) := by decide +kernel
theorem dX6_isUnder_16 : decode cX6_isUnder 16 = .ok (.if_icmp .eq 13, 3) := by decide +kernel
theorem dX6_isUnder_19 : decode cX6_isUnder 19 = .ok (.iload_n 0, 1) := by decide +kernel
theorem dX6_isUnder_20 : decode cX6_isUnder 20 = .ok (.iconst 4, 1) := by decide +kernel
theorem dX6_isUnder_21 : decode cX6_isUnder 21 = .ok (.if_icmp .ne 12, 3) := by decide +kernel
theorem dX6_isUnder_24 : decode cX6_isUnder 24 = .ok (.iload_n 1, 1) := by decide +kernel
theorem dX6_isUnder_25 : decode cX6_isUnder 25 = .ok (.iconst 2, 1) := by decide +kernel
theorem dX6_isUnder_26 : decode cX6_isUnder 26 = .ok (.if_icmp .ne 7, 3) := by decide +kernel
theorem dX6_isUnder_29 : decode cX6_isUnder 29 = .ok (.iconst 1, 1) := by decide +kernel
theorem dX6_isUnder_30 : decode cX6_isUnder 30 = .ok (.goto 4, 3) := by decide +kernel
theorem dX6_isUnder_33 : decode cX6_isUnder 33 = .ok (.iconst 0, 1) := by decide +kernel
theorem dX6_isUnder_34 : decode cX6_isUnder 34 = .ok (.ireturn, 1) := by decide +kernel
theorem dX6_says_0 : decode cX6_says 0 = .ok (.iload_n 1, 1) := by decide +kernel
theorem dX6_says_1 : decode cX6_says 1 = .ok (.invokestatic 79, 3) := by decide +kernel
theorem dX6_says_4 : decode cX6_says 4 = .ok (.ifCond .eq 12, 3) := by decide +kernel
theorem dX6_says_7 : decode cX6_says 7 = .ok (.iload_n 2, 1) := by decide +kernel
theorem dX6_says_8 : decode cX6_says 8 = .ok (.iconst 0, 1) := by decide +kernel
theorem dX6_says_9 : decode cX6_says 9 = .ok (.iconst 5, 1) := by decide +kernel
theorem dX6_says_10 : decode cX6_says 10 = .ok (.invokestatic 75, 3) := by decide +kernel
theorem dX6_says_13 : decode cX6_says 13 = .ok (.ifCond .ne 10, 3) := by decide +kernel
theorem dX6_says_16 : decode cX6_says 16 = .ok (.aload_n 0, 1) := by decide +kernel
theorem dX6_says_17 : decode cX6_says 17 = .ok (.bipush (-2), 2) := by decide +kernel
theorem dX6_says_19 : decode cX6_says 19 = .ok (.invokevirtual 83, 3) := by decide +kernel
theorem dX6_says_22 : decode cX6_says 22 = .ok (.ireturn, 1) := by decide +kernel
theorem dX6_says_23 : decode cX6_says 23 = .ok (.aload_n 0, 1) := by decide +kernel
theorem dX6_says_24 : decode cX6_says 24 = .ok (.iload_n 1, 1) := by decide +kernel
theorem dX6_says_25 : decode cX6_says 25 = .ok (.invokevirtual 87, 3) := by decide +kernel
theorem dX6_says_28 : decode cX6_says 28 = .ok (.ifCond .eq 10, 3) := by decide +kernel
theorem dX6_says_31 : decode cX6_says 31 = .ok (.aload_n 0, 1) := by decide +kernel
theorem dX6_says_32 : decode cX6_says 32 = .ok (.bipush (-3), 2) := by decide +kernel
theorem dX6_says_34 : decode cX6_says 34 = .ok (.invokevirtual 83, 3) := by decide +kernel
theorem dX6_says_37 : decode cX6_says 37 = .ok (.ireturn, 1) := by decide +kernel
theorem dX6_says_38 : decode cX6_says 38 = .ok (.aload_n 0, 1) := by decide +kernel
theorem dX6_says_39 : decode cX6_says 39 = .ok (.getfield 26, 3) := by decide +kernel
theorem dX6_says_42 : decode cX6_says 42 = .ok (.iload_n 1, 1) := by decide +kernel
theorem dX6_says_43 : decode cX6_says 43 = .ok (.iaload, 1) := by decide +kernel
theorem dX6_says_44 : decode cX6_says 44 = .ok (.ifCond .ge 10, 3) := by decide +kernel
theorem dX6_says_47 : decode cX6_says 47 = .ok (.aload_n 0, 1) := by decide +kernel
theorem dX6_says_48 : decode cX6_says 48 = .ok (.bipush (-4), 2) := by decide +kernel
theorem dX6_says_50 : decode cX6_says 50 = .ok (.invokevirtual 83, 3) := by decide +kernel
theorem dX6_says_53 : decode cX6_says 53 = .ok (.ireturn, 1) := by decide +kernel
theorem dX6_says_54 : decode cX6_says 54 = .ok (.aload_n 0, 1) := by decide +kernel
theorem dX6_says_55 : decode cX6_says 55 = .ok (.getfield 26, 3) := by decide +kernel
theorem dX6_says_58 : decode cX6_says 58 = .ok (.iload_n 1, 1) := by decide +kernel
theorem dX6_says_59 : decode cX6_says 59 = .ok (.iaload, 1) := by decide +kernel
theorem dX6_says_60 : decode cX6_says 60 = .ok (.bipush 10, 2) := by decide +kernel
theorem dX6_says_62 : decode cX6_says 62 = .ok (.isub, 1) := by decide +kernel
theorem dX6_says_63 : decode cX6_says 63 = .ok (.istore_n 3, 1) := by decide +kernel
theorem dX6_says_64 : decode cX6_says 64 = .ok (.aload_n 0, 1) := by decide +kernel
theorem dX6_says_65 : decode cX6_says 65 = .ok (.getfield 13, 3) := by decide +kernel
theorem dX6_says_68 : decode cX6_says 68 = .ok (.iload_n 3, 1) := by decide +kernel
theorem dX6_says_69 : decode cX6_says 69 = .ok (.iaload, 1) := by decide +kernel
theorem dX6_says_70 : decode cX6_says 70 = .ok (.iload_n 2, 1) := by decide +kernel
theorem dX6_says_71 : decode cX6_says 71 = .ok (.invokestatic 100, 3) := by decide +kernel
theorem dX6_says_74 : decode cX6_says 74 = .ok (.ifCond .ne 10, 3) := by decide +kernel
theorem dX6_says_77 : decode cX6_says 77 = .ok (.aload_n 0, 1) := by decide +kernel
theorem dX6_says_78 : decode cX6_says 78 = .ok (.bipush (-3), 2) := by decide +kernel
theorem dX6_says_80 : decode cX6_says 80 = .ok (.invokevirtual 83, 3) := by decide +kernel
theorem dX6_says_83 : decode cX6_says 83 = .ok (.ireturn, 1) := by decide +kernel
theorem dX6_says_84 : decode cX6_says 84 = .ok (.iload_n 2, 1) := by decide +kernel
theorem dX6_says_85 : decode cX6_says 85 = .ok (.ifCond .ne 10, 3) := by decide +kernel
theorem dX6_says_88 : decode cX6_says 88 = .ok (.aload_n 0, 1) := by decide +kernel
theorem dX6_says_89 : decode cX6_says 89 = .ok (.getfield 17, 3) := by decide +kernel
theorem dX6_says_92 : decode cX6_says 92 = .ok (.iload_n 3, 1) := by decide +kernel
theorem dX6_says_93 : decode cX6_says 93 = .ok (.iaload, 1) := by decide +kernel
theorem dX6_says_94 : decode cX6_says 94 = .ok (.ireturn, 1) := by decide +kernel
theorem dX6_says_95 : decode cX6_says 95 = .ok (.aload_n 0, 1) := by decide +kernel
theorem dX6_says_96 : decode cX6_says 96 = .ok (.iconst 0, 1) := by decide +kernel
theorem dX6_says_97 : decode cX6_says 97 = .ok (.invokevirtual 104, 3) := by decide +kernel
theorem dX6_says_100 : decode cX6_says 100 = .ok (.aload_n 0, 1) := by decide +kernel
theorem dX6_says_101 : decode cX6_says 101 = .ok (.iload_n 3, 1) := by decide +kernel
theorem dX6_says_102 : decode cX6_says 102 = .ok (.invokevirtual 108, 3) := by decide +kernel
theorem dX6_says_105 : decode cX6_says 105 = .ok (.aload_n 0, 1) := by decide +kernel
theorem dX6_says_106 : decode cX6_says 106 = .ok (.getfield 20, 3) := by decide +kernel
theorem dX6_says_109 : decode cX6_says 109 = .ok (.iload_n 3, 1) := by decide +kernel
theorem dX6_says_110 : decode cX6_says 110 = .ok (.iaload, 1) := by decide +kernel
theorem dX6_says_111 : decode cX6_says 111 = .ok (.istore 4, 2) := by decide +kernel
theorem dX6_says_113 : decode cX6_says 113 = .ok (.aload_n 0, 1) := by decide +kernel
theorem dX6_says_114 : decode cX6_says 114 = .ok (.iconst 0, 1) := by decide +kernel
theorem dX6_says_115 : decode cX6_says 115 = .ok (.invokevirtual 111, 3) := by decide +kernel
theorem dX6_says_118 : decode cX6_says 118 = .ok (.iload 4, 2) := by decide +kernel
theorem dX6_says_120 : decode cX6_says 120 = .ok (.ireturn, 1) := by decide +kernel
theorem dX6_steps_0 : decode cX6_steps 0 = .ok (.iload_n 0, 1) := by decide +kernel
theorem dX6_steps_1 : decode cX6_steps 1 = .ok (.bipush 10, 2) := by decide +kernel
theorem dX6_steps_3 : decode cX6_steps 3 = .ok (.idiv, 1) := by decide +kernel
theorem dX6_steps_4 : decode cX6_steps 4 = .ok (.iload_n 1, 1) := by decide +kernel
theorem dX6_steps_5 : decode cX6_steps 5 = .ok (.bipush 10, 2) := by decide +kernel
theorem dX6_steps_7 : decode cX6_steps 7 = .ok (.idiv, 1) := by decide +kernel
theorem dX6_steps_8 : decode cX6_steps 8 = .ok (.isub, 1) := by decide +kernel
theorem dX6_steps_9 : decode cX6_steps 9 = .ok (.invokestatic 114, 3) := by decide +kernel
theorem dX6_steps_12 : decode cX6_steps 12 = .ok (.iload_n 0, 1) := by decide +kernel
theorem dX6_steps_13 : decode cX6_steps 13 = .ok (.bipush 10, 2) := by decide +kernel
theorem dX6_steps_15 : decode cX6_steps 15 = .ok (.irem, 1) := by decide +kernel
theorem dX6_steps_16 : decode cX6_steps 16 = .ok (.iload_n 1, 1) := by decide +kernel
theorem dX6_steps_17 : decode cX6_steps 17 = .ok (.bipush 10, 2) := by decide +kernel
theorem dX6_steps_19 : decode cX6_steps 19 = .ok (.irem, 1) := by decide +kernel
theorem dX6_steps_20 : decode cX6_steps 20 = .ok (.isub, 1) := by decide +kernel
theorem dX6_steps_21 : decode cX6_steps 21 = .ok (.invokestatic 114, 3) := by decide +kernel
theorem dX6_steps_24 : decode cX6_steps 24 = .ok (.iadd, 1) := by decide +kernel
theorem dX6_steps_25 : decode cX6_steps 25 = .ok (.ireturn, 1) := by decide +kernel
theorem dX6_isEweAt_0 : decode cX6_isEweAt 0 = .ok (.iconst 0, 1) := by decide +kernel
theorem dX6_isEweAt_1 : decode cX6_isEweAt 1 = .ok (.istore_n 2, 1) := by decide +kernel
theorem dX6_isEweAt_2 : decode cX6_isEweAt 2 = .ok (.iload_n 2, 1) := by decide +kernel
theorem dX6_isEweAt_3 : decode cX6_isEweAt 3 = .ok (.aload_n 0, 1) := by decide +kernel
theorem dX6_isEweAt_4 : decode cX6_isEweAt 4 = .ok (.getfield 72, 3) := by decide +kernel
theorem dX6_isEweAt_7 : decode cX6_isEweAt 7 = .ok (.if_icmp .ge 21, 3) := by decide +kernel
theorem dX6_isEweAt_10 : decode cX6_isEweAt 10 = .ok (.aload_n 0, 1) := by decide +kernel
theorem dX6_isEweAt_11 : decode cX6_isEweAt 11 = .ok (.getfield 20, 3) := by decide +kernel
theorem dX6_isEweAt_14 : decode cX6_isEweAt 14 = .ok (.iload_n 2, 1) := by decide +kernel
theorem dX6_isEweAt_15 : decode cX6_isEweAt 15 = .ok (.iaload, 1) := by decide +kernel
theorem dX6_isEweAt_16 : decode cX6_isEweAt 16 = .ok (.iload_n 1, 1) := by decide +kernel
theorem dX6_isEweAt_17 : decode cX6_isEweAt 17 = .ok (.if_icmp .ne 5, 3) := by decide +kernel
theorem dX6_isEweAt_20 : decode cX6_isEweAt 20 = .ok (.iconst 1, 1) := by decide +kernel
theorem dX6_isEweAt_21 : decode cX6_isEweAt 21 = .ok (.ireturn, 1) := by decide +kernel
theorem dX6_isEweAt_22 : decode cX6_isEweAt 22 = .ok (.iinc 2 1, 3) := by decide +kernel
theorem dX6_isEweAt_25 : decode cX6_isEweAt 25 = .ok (.goto (-23), 3) := by decide +kernel
theorem dX6_isEweAt_28 : decode cX6_isEweAt 28 = .ok (.iconst 0, 1) := by decide +kernel
theorem dX6_isEweAt_29 : decode cX6_isEweAt 29 = .ok (.ireturn, 1) := by decide +kernel
theorem dX6_isIn_0 : decode cX6_isIn 0 = .ok (.aload_n 0, 1) := by decide +kernel
theorem dX6_isIn_1 : decode cX6_isIn 1 = .ok (.getfield 20, 3) := by decide +kernel
theorem dX6_isIn_4 : decode cX6_isIn 4 = .ok (.iload_n 1, 1) := by decide +kernel
theorem dX6_isIn_5 : decode cX6_isIn 5 = .ok (.iaload, 1) := by decide +kernel
theorem dX6_isIn_6 : decode cX6_isIn 6 = .ok (.aload_n 0, 1) := by decide +kernel
theorem dX6_isIn_7 : decode cX6_isIn 7 = .ok (.getfield 119, 3) := by decide +kernel
theorem dX6_isIn_10 : decode cX6_isIn 10 = .ok (.if_icmp .ne 7, 3) := by decide +kernel
theorem dX6_isIn_13 : decode cX6_isIn 13 = .ok (.iconst 1, 1) := by decide +kernel
theorem dX6_isIn_14 : decode cX6_isIn 14 = .ok (.goto 4, 3) := by decide +kernel
theorem dX6_isIn_17 : decode cX6_isIn 17 = .ok (.iconst 0, 1) := by decide +kernel
theorem dX6_isIn_18 : decode cX6_isIn 18 = .ok (.ireturn, 1) := by decide +kernel
theorem dX6_in_0 : decode cX6_in 0 = .ok (.iconst 0, 1) := by decide +kernel
theorem dX6_in_1 : decode cX6_in 1 = .ok (.istore_n 1, 1) := by decide +kernel
theorem dX6_in_2 : decode cX6_in 2 = .ok (.iconst 0, 1) := by decide +kernel
theorem dX6_in_3 : decode cX6_in 3 = .ok (.istore_n 2, 1) := by decide +kernel
theorem dX6_in_4 : decode cX6_in 4 = .ok (.iload_n 2, 1) := by decide +kernel
theorem dX6_in_5 : decode cX6_in 5 = .ok (.aload_n 0, 1) := by decide +kernel
theorem dX6_in_6 : decode cX6_in 6 = .ok (.getfield 72, 3) := by decide +kernel
theorem dX6_in_9 : decode cX6_in 9 = .ok (.if_icmp .ge 20, 3) := by decide +kernel
theorem dX6_in_12 : decode cX6_in 12 = .ok (.aload_n 0, 1) := by decide +kernel
theorem dX6_in_13 : decode cX6_in 13 = .ok (.iload_n 2, 1) := by decide +kernel
theorem dX6_in_14 : decode cX6_in 14 = .ok (.invokevirtual 122, 3) := by decide +kernel
theorem dX6_in_17 : decode cX6_in 17 = .ok (.ifCond .eq 6, 3) := by decide +kernel
theorem dX6_in_20 : decode cX6_in 20 = .ok (.iinc 1 1, 3) := by decide +kernel
theorem dX6_in_23 : decode cX6_in 23 = .ok (.iinc 2 1, 3) := by decide +kernel
theorem dX6_in_26 : decode cX6_in 26 = .ok (.goto (-22), 3) := by decide +kernel
theorem dX6_in_29 : decode cX6_in 29 = .ok (.iload_n 1, 1) := by decide +kernel
theorem dX6_in_30 : decode cX6_in 30 = .ok (.ireturn, 1) := by decide +kernel
theorem dX6_beside_0 : decode cX6_beside 0 = .ok (.iload_n 1, 1) := by decide +kernel
theorem dX6_beside_1 : decode cX6_beside 1 = .ok (.bipush 10, 2) := by decide +kernel
theorem dX6_beside_3 : decode cX6_beside 3 = .ok (.idiv, 1) := by decide +kernel
theorem dX6_beside_4 : decode cX6_beside 4 = .ok (.iload_n 2, 1) := by decide +kernel
theorem dX6_beside_5 : decode cX6_beside 5 = .ok (.iconst 1, 1) := by decide +kernel
theorem dX6_beside_6 : decode cX6_beside 6 = .ok (.if_icmp .ne 7, 3) := by decide +kernel
theorem dX6_beside_9 : decode cX6_beside 9 = .ok (.iconst (-1), 1) := by decide +kernel
theorem dX6_beside_10 : decode cX6_beside 10 = .ok (.goto 13, 3) := by decide +kernel
theorem dX6_beside_13 : decode cX6_beside 13 = .ok (.iload_n 2, 1) := by decide +kernel
theorem dX6_beside_14 : decode cX6_beside 14 = .ok (.iconst 2, 1) := by decide +kernel
theorem dX6_beside_15 : decode cX6_beside 15 = .ok (.if_icmp .ne 7, 3) := by decide +kernel
theorem dX6_beside_18 : decode cX6_beside 18 = .ok (.iconst 1, 1) := by decide +kernel
theorem dX6_beside_19 : decode cX6_beside 19 = .ok (.goto 4, 3) := by decide +kernel
theorem dX6_beside_22 : decode cX6_beside 22 = .ok (.iconst 0, 1) := by decide +kernel
theorem dX6_beside_23 : decode cX6_beside 23 = .ok (.iadd, 1) := by decide +kernel
theorem dX6_beside_24 : decode cX6_beside 24 = .ok (.istore_n 3, 1) := by decide +kernel
theorem dX6_beside_25 : decode cX6_beside 25 = .ok (.iload_n 1, 1) := by decide +kernel
theorem dX6_beside_26 : decode cX6_beside 26 = .ok (.bipush 10, 2) := by decide +kernel
theorem dX6_beside_28 : decode cX6_beside 28 = .ok (.irem, 1) := by decide +kernel
theorem dX6_beside_29 : decode cX6_beside 29 = .ok (.iload_n 2, 1) := by decide +kernel
theorem dX6_beside_30 : decode cX6_beside 30 = .ok (.iconst 3, 1) := by decide +kernel
theorem dX6_beside_31 : decode cX6_beside 31 = .ok (.if_icmp .ne 7, 3) := by decide +kernel
theorem dX6_beside_34 : decode cX6_beside 34 = .ok (.iconst (-1), 1) := by decide +kernel
theorem dX6_beside_35 : decode cX6_beside 35 = .ok (.goto 13, 3) := by decide +kernel
theorem dX6_beside_38 : decode cX6_beside 38 = .ok (.iload_n 2, 1) := by decide +kernel
theorem dX6_beside_39 : decode cX6_beside 39 = .ok (.iconst 4, 1) := by decide +kernel
theorem dX6_beside_40 : decode cX6_beside 40 = .ok (.if_icmp .ne 7, 3) := by decide +kernel
theorem dX6_beside_43 : decode cX6_beside 43 = .ok (.iconst 1, 1) := by decide +kernel
theorem dX6_beside_44 : decode cX6_beside 44 = .ok (.goto 4, 3) := by decide +kernel
theorem dX6_beside_47 : decode cX6_beside 47 = .ok (.iconst 0, 1) := by decide +kernel
theorem dX6_beside_48 : decode cX6_beside 48 = .ok (.iadd, 1) := by decide +kernel
theorem dX6_beside_49 : decode cX6_beside 49 = .ok (.istore 4, 2) := by decide +kernel
theorem dX6_beside_51 : decode cX6_beside 51 = .ok (.iload_n 3, 1) := by decide +kernel
theorem dX6_beside_52 : decode cX6_beside 52 = .ok (.iconst 0, 1) := by decide +kernel
theorem dX6_beside_53 : decode cX6_beside 53 = .ok (.aload_n 0, 1) := by decide +kernel
theorem dX6_beside_54 : decode cX6_beside 54 = .ok (.getfield 57, 3) := by decide +kernel
theorem dX6_beside_57 : decode cX6_beside 57 = .ok (.iconst 1, 1) := by decide +kernel
theorem dX6_beside_58 : decode cX6_beside 58 = .ok (.isub, 1) := by decide +kernel
theorem dX6_beside_59 : decode cX6_beside 59 = .ok (.invokestatic 75, 3) := by decide +kernel
theorem dX6_beside_62 : decode cX6_beside 62 = .ok (.ifCond .eq 33, 3) := by decide +kernel
theorem dX6_beside_65 : decode cX6_beside 65 = .ok (.iload 4, 2) := by decide +kernel
theorem dX6_beside_67 : decode cX6_beside 67 = .ok (.iconst 0, 1) := by decide +kernel
theorem dX6_beside_68 : decode cX6_beside 68 = .ok (.aload_n 0, 1) := by decide +kernel
theorem dX6_beside_69 : decode cX6_beside 69 = .ok (.getfield 57, 3) := by decide +kernel
theorem dX6_beside_72 : decode cX6_beside 72 = .ok (.iconst 1, 1) := by decide +kernel
theorem dX6_beside_73 : decode cX6_beside 73 = .ok (.isub, 1) := by decide +kernel
theorem dX6_beside_74 : decode cX6_beside 74 = .ok (.invokestatic 75, 3) := by decide +kernel
theorem dX6_beside_77 : decode cX6_beside 77 = .ok (.ifCond .eq 18, 3) := by decide +kernel
theorem dX6_beside_80 : decode cX6_beside 80 = .ok (.aload_n 0, 1) := by decide +kernel
theorem dX6_beside_81 : decode cX6_beside 81 = .ok (.getfield 7, 3) := by decide +kernel
theorem dX6_beside_84 : decode cX6_beside 84 = .ok (.bipush 10, 2) := by decide +kernel
theorem dX6_beside_86 : decode cX6_beside 86 = .ok (.iload_n 3, 1) := by decide +kernel
theorem dX6_beside_87 : decode cX6_beside 87 = .ok (.imul, 1) := by decide +kernel
theorem dX6_beside_88 : decode cX6_beside 88 = .ok (.iload 4, 2) := by decide +kernel
theorem dX6_beside_90 : decode cX6_beside 90 = .ok (.iadd, 1) := by decide +kernel
theorem dX6_beside_91 : decode cX6_beside 91 = .ok (.baload, 1) := by decide +kernel
theorem dX6_beside_92 : decode cX6_beside 92 = .ok (.ifCond .eq 5, 3) := by decide +kernel
theorem dX6_beside_95 : decode cX6_beside 95 = .ok (.iconst (-1), 1) := by decide +kernel
theorem dX6_beside_96 : decode cX6_beside 96 = .ok (.ireturn, 1) := by decide +kernel
theorem dX6_beside_97 : decode cX6_beside 97 = .ok (.bipush 10, 2) := by decide +kernel
theorem dX6_beside_99 : decode cX6_beside 99 = .ok (.iload_n 3, 1) := by decide +kernel
theorem dX6_beside_100 : decode cX6_beside 100 = .ok (.imul, 1) := by decide +kernel
theorem dX6_beside_101 : decode cX6_beside 101 = .ok (.iload 4, 2) := by decide +kernel
theorem dX6_beside_103 : decode cX6_beside 103 = .ok (.iadd, 1) := by decide +kernel
theorem dX6_beside_104 : decode cX6_beside 104 = .ok (.ireturn, 1) := by decide +kernel
theorem dX6_side_0 : decode cX6_side 0 = .ok (.iload_n 1, 1) := by decide +kernel
theorem dX6_side_1 : decode cX6_side 1 = .ok (.iconst 3, 1) := by decide +kernel
theorem dX6_side_2 : decode cX6_side 2 = .ok (.bipush 7, 2) := by decide +kernel
theorem dX6_side_4 : decode cX6_side 4 = .ok (.invokestatic 75, 3) := by decide +kernel
theorem dX6_side_7 : decode cX6_side 7 = .ok (.ifCond .eq 11, 3) := by decide +kernel
theorem dX6_side_10 : decode cX6_side 10 = .ok (.iload_n 1, 1) := by decide +kernel
theorem dX6_side_11 : decode cX6_side 11 = .ok (.aload_n 0, 1) := by decide +kernel
theorem dX6_side_12 : decode cX6_side 12 = .ok (.getfield 57, 3) := by decide +kernel
theorem dX6_side_15 : decode cX6_side 15 = .ok (.if_icmp .ge 10, 3) := by decide +kernel
theorem dX6_side_18 : decode cX6_side 18 = .ok (.aload_n 0, 1) := by decide +kernel
theorem dX6_side_19 : decode cX6_side 19 = .ok (.bipush (-2), 2) := by decide +kernel
theorem dX6_side_21 : decode cX6_side 21 = .ok (.invokevirtual 83, 3) := by decide +kernel
theorem dX6_side_24 : decode cX6_side 24 = .ok (.ireturn, 1) := by decide +kernel
theorem dX6_side_25 : decode cX6_side 25 = .ok (.aload_n 0, 1) := by decide +kernel
theorem dX6_side_26 : decode cX6_side 26 = .ok (.getfield 57, 3) := by decide +kernel
theorem dX6_side_29 : decode cX6_side 29 = .ok (.istore_n 2, 1) := by decide +kernel
theorem dX6_side_30 : decode cX6_side 30 = .ok (.aload_n 0, 1) := by decide +kernel
theorem dX6_side_31 : decode cX6_side 31 = .ok (.iload_n 1, 1) := by decide +kernel
theorem dX6_side_32 : decode cX6_side 32 = .ok (.putfield 57, 3) := by decide +kernel
theorem dX6_side_35 : decode cX6_side 35 = .ok (.iload_n 2, 1) := by decide +kernel
theorem dX6_side_36 : decode cX6_side 36 = .ok (.ireturn, 1) := by decide +kernel
theorem dX6_mayWall_0 : decode cX6_mayWall 0 = .ok (.iload_n 1, 1) := by decide +kernel
theorem dX6_mayWall_1 : decode cX6_mayWall 1 = .ok (.aload_n 0, 1) := by decide +kernel
theorem dX6_mayWall_2 : decode cX6_mayWall 2 = .ok (.getfield 119, 3) := by decide +kernel
theorem dX6_mayWall_5 : decode cX6_mayWall 5 = .ok (.if_icmp .eq 23, 3) := by decide +kernel
theorem dX6_mayWall_8 : decode cX6_mayWall 8 = .ok (.iload_n 1, 1) := by decide +kernel
theorem dX6_mayWall_9 : decode cX6_mayWall 9 = .ok (.aload_n 0, 1) := by decide +kernel
theorem dX6_mayWall_10 : decode cX6_mayWall 10 = .ok (.getfield 61, 3) := by decide +kernel
theorem dX6_mayWall_13 : decode cX6_mayWall 13 = .ok (.if_icmp .eq 15, 3) := by decide +kernel
theorem dX6_mayWall_16 : decode cX6_mayWall 16 = .ok (.aload_n 0, 1) := by decide +kernel
theorem dX6_mayWall_17 : decode cX6_mayWall 17 = .ok (.iload_n 1, 1) := by decide +kernel
theorem dX6_mayWall_18 : decode cX6_mayWall 18 = .ok (.invokevirtual 125, 3) := by decide +kernel
theorem dX6_mayWall_21 : decode cX6_mayWall 21 = .ok (.ifCond .ne 7, 3) := by decide +kernel
theorem dX6_mayWall_24 : decode cX6_mayWall 24 = .ok (.iconst 1, 1) := by decide +kernel
theorem dX6_mayWall_25 : decode cX6_mayWall 25 = .ok (.goto 4, 3) := by decide +kernel
theorem dX6_mayWall_28 : decode cX6_mayWall 28 = .ok (.iconst 0, 1) := by decide +kernel
theorem dX6_mayWall_29 : decode cX6_mayWall 29 = .ok (.ireturn, 1) := by decide +kernel
theorem dX6_wall_0 : decode cX6_wall 0 = .ok (.aload_n 0, 1) := by decide +kernel
theorem dX6_wall_1 : decode cX6_wall 1 = .ok (.iload_n 1, 1) := by decide +kernel
theorem dX6_wall_2 : decode cX6_wall 2 = .ok (.i2l, 1) := by decide +kernel
theorem dX6_wall_3 : decode cX6_wall 3 = .ok (.invokevirtual 128, 3) := by decide +kernel
theorem dX6_wall_6 : decode cX6_wall 6 = .ok (.ifCond .ne 10, 3) := by decide +kernel
theorem dX6_wall_9 : decode cX6_wall 9 = .ok (.aload_n 0, 1) := by decide +kernel
theorem dX6_wall_10 : decode cX6_wall 10 = .ok (.bipush (-2), 2) := by decide +kernel
theorem dX6_wall_12 : decode cX6_wall 12 = .ok (.invokevirtual 83, 3) := by decide +kernel
theorem dX6_wall_15 : decode cX6_wall 15 = .ok (.ireturn, 1) := by decide +kernel
theorem dX6_wall_16 : decode cX6_wall 16 = .ok (.iload_n 2, 1) := by decide +kernel
theorem dX6_wall_17 : decode cX6_wall 17 = .ok (.ifCond .eq 18, 3) := by decide +kernel
theorem dX6_wall_20 : decode cX6_wall 20 = .ok (.aload_n 0, 1) := by decide +kernel
theorem dX6_wall_21 : decode cX6_wall 21 = .ok (.iload_n 1, 1) := by decide +kernel
theorem dX6_wall_22 : decode cX6_wall 22 = .ok (.invokevirtual 132, 3) := by decide +kernel
theorem dX6_wall_25 : decode cX6_wall 25 = .ok (.ifCond .ne 10, 3) := by decide +kernel
theorem dX6_wall_28 : decode cX6_wall 28 = .ok (.aload_n 0, 1) := by decide +kernel
theorem dX6_wall_29 : decode cX6_wall 29 = .ok (.bipush (-5), 2) := by decide +kernel
theorem dX6_wall_31 : decode cX6_wall 31 = .ok (.invokevirtual 83, 3) := by decide +kernel
theorem dX6_wall_34 : decode cX6_wall 34 = .ok (.ireturn, 1) := by decide +kernel
theorem dX6_wall_35 : decode cX6_wall 35 = .ok (.aload_n 0, 1) := by decide +kernel
theorem dX6_wall_36 : decode cX6_wall 36 = .ok (.getfield 7, 3) := by decide +kernel
theorem dX6_wall_39 : decode cX6_wall 39 = .ok (.iload_n 1, 1) := by decide +kernel
theorem dX6_wall_40 : decode cX6_wall 40 = .ok (.baload, 1) := by decide +kernel
theorem dX6_wall_41 : decode cX6_wall 41 = .ok (.ifCond .eq 7, 3) := by decide +kernel
theorem dX6_wall_44 : decode cX6_wall 44 = .ok (.iconst 1, 1) := by decide +kernel
theorem dX6_wall_45 : decode cX6_wall 45 = .ok (.goto 4, 3) := by decide +kernel
theorem dX6_wall_48 : decode cX6_wall 48 = .ok (.iconst 0, 1) := by decide +kernel
theorem dX6_wall_49 : decode cX6_wall 49 = .ok (.istore_n 3, 1) := by decide +kernel
theorem dX6_wall_50 : decode cX6_wall 50 = .ok (.aload_n 0, 1) := by decide +kernel
theorem dX6_wall_51 : decode cX6_wall 51 = .ok (.getfield 7, 3) := by decide +kernel
theorem dX6_wall_54 : decode cX6_wall 54 = .ok (.iload_n 1, 1) := by decide +kernel
theorem dX6_wall_55 : decode cX6_wall 55 = .ok (.iload_n 2, 1) := by decide +kernel
theorem dX6_wall_56 : decode cX6_wall 56 = .ok (.bastore, 1) := by decide +kernel
theorem dX6_wall_57 : decode cX6_wall 57 = .ok (.iload_n 3, 1) := by decide +kernel
theorem dX6_wall_58 : decode cX6_wall 58 = .ok (.ireturn, 1) := by decide +kernel
theorem dX6_mayPen_0 : decode cX6_mayPen 0 = .ok (.aload_n 0, 1) := by decide +kernel
theorem dX6_mayPen_1 : decode cX6_mayPen 1 = .ok (.getfield 7, 3) := by decide +kernel
theorem dX6_mayPen_4 : decode cX6_mayPen 4 = .ok (.iload_n 1, 1) := by decide +kernel
theorem dX6_mayPen_5 : decode cX6_mayPen 5 = .ok (.baload, 1) := by decide +kernel
theorem dX6_mayPen_6 : decode cX6_mayPen 6 = .ok (.ifCond .ne 30, 3) := by decide +kernel
theorem dX6_mayPen_9 : decode cX6_mayPen 9 = .ok (.iload_n 1, 1) := by decide +kernel
theorem dX6_mayPen_10 : decode cX6_mayPen 10 = .ok (.aload_n 0, 1) := by decide +kernel
theorem dX6_mayPen_11 : decode cX6_mayPen 11 = .ok (.getfield 61, 3) := by decide +kernel
theorem dX6_mayPen_14 : decode cX6_mayPen 14 = .ok (.if_icmp .eq 22, 3) := by decide +kernel
theorem dX6_mayPen_17 : decode cX6_mayPen 17 = .ok (.aload_n 0, 1) := by decide +kernel
theorem dX6_mayPen_18 : decode cX6_mayPen 18 = .ok (.iload_n 1, 1) := by decide +kernel
theorem dX6_mayPen_19 : decode cX6_mayPen 19 = .ok (.invokevirtual 125, 3) := by decide +kernel
theorem dX6_mayPen_22 : decode cX6_mayPen 22 = .ok (.ifCond .ne 14, 3) := by decide +kernel
theorem dX6_mayPen_25 : decode cX6_mayPen 25 = .ok (.aload_n 0, 1) := by decide +kernel
theorem dX6_mayPen_26 : decode cX6_mayPen 26 = .ok (.invokevirtual 135, 3) := by decide +kernel
theorem dX6_mayPen_29 : decode cX6_mayPen 29 = .ok (.ifCond .ne 7, 3) := by decide +kernel
theorem dX6_mayPen_32 : decode cX6_mayPen 32 = .ok (.iconst 1, 1) := by decide +kernel
theorem dX6_mayPen_33 : decode cX6_mayPen 33 = .ok (.goto 4, 3) := by decide +kernel
theorem dX6_mayPen_36 : decode cX6_mayPen 36 = .ok (.iconst 0, 1) := by decide +kernel
theorem dX6_mayPen_37 : decode cX6_mayPen 37 = .ok (.ireturn, 1) := by decide +kernel
theorem dX6_pen_0 : decode cX6_pen 0 = .ok (.aload_n 0, 1) := by decide +kernel
theorem dX6_pen_1 : decode cX6_pen 1 = .ok (.iload_n 1, 1) := by decide +kernel
theorem dX6_pen_2 : decode cX6_pen 2 = .ok (.i2l, 1) := by decide +kernel
theorem dX6_pen_3 : decode cX6_pen 3 = .ok (.invokevirtual 128, 3) := by decide +kernel
theorem dX6_pen_6 : decode cX6_pen 6 = .ok (.ifCond .ne 10, 3) := by decide +kernel
theorem dX6_pen_9 : decode cX6_pen 9 = .ok (.aload_n 0, 1) := by decide +kernel
theorem dX6_pen_10 : decode cX6_pen 10 = .ok (.bipush (-2), 2) := by decide +kernel
theorem dX6_pen_12 : decode cX6_pen 12 = .ok (.invokevirtual 83, 3) := by decide +kernel
theorem dX6_pen_15 : decode cX6_pen 15 = .ok (.ireturn, 1) := by decide +kernel
theorem dX6_pen_16 : decode cX6_pen 16 = .ok (.aload_n 0, 1) := by decide +kernel
theorem dX6_pen_17 : decode cX6_pen 17 = .ok (.iload_n 1, 1) := by decide +kernel
theorem dX6_pen_18 : decode cX6_pen 18 = .ok (.invokevirtual 139, 3) := by decide +kernel
theorem dX6_pen_21 : decode cX6_pen 21 = .ok (.ifCond .ne 10, 3) := by decide +kernel
theorem dX6_pen_24 : decode cX6_pen 24 = .ok (.aload_n 0, 1) := by decide +kernel
theorem dX6_pen_25 : decode cX6_pen 25 = .ok (.bipush (-5), 2) := by decide +kernel
theorem dX6_pen_27 : decode cX6_pen 27 = .ok (.invokevirtual 83, 3) := by decide +kernel
theorem dX6_pen_30 : decode cX6_pen 30 = .ok (.ireturn, 1) := by decide +kernel
theorem dX6_pen_31 : decode cX6_pen 31 = .ok (.aload_n 0, 1) := by decide +kernel
theorem dX6_pen_32 : decode cX6_pen 32 = .ok (.getfield 119, 3) := by decide +kernel
theorem dX6_pen_35 : decode cX6_pen 35 = .ok (.istore_n 2, 1) := by decide +kernel
theorem dX6_pen_36 : decode cX6_pen 36 = .ok (.aload_n 0, 1) := by decide +kernel
theorem dX6_pen_37 : decode cX6_pen 37 = .ok (.iload_n 1, 1) := by decide +kernel
theorem dX6_pen_38 : decode cX6_pen 38 = .ok (.putfield 119, 3) := by decide +kernel
theorem dX6_pen_41 : decode cX6_pen 41 = .ok (.iload_n 2, 1) := by decide +kernel
theorem dX6_pen_42 : decode cX6_pen 42 = .ok (.ireturn, 1) := by decide +kernel
theorem dX6_mayDog_0 : decode cX6_mayDog 0 = .ok (.aload_n 0, 1) := by decide +kernel
theorem dX6_mayDog_1 : decode cX6_mayDog 1 = .ok (.getfield 7, 3) := by decide +kernel
theorem dX6_mayDog_4 : decode cX6_mayDog 4 = .ok (.iload_n 1, 1) := by decide +kernel
theorem dX6_mayDog_5 : decode cX6_mayDog 5 = .ok (.baload, 1) := by decide +kernel
theorem dX6_mayDog_6 : decode cX6_mayDog 6 = .ok (.ifCond .ne 15, 3) := by decide +kernel
theorem dX6_mayDog_9 : decode cX6_mayDog 9 = .ok (.iload_n 1, 1) := by decide +kernel
theorem dX6_mayDog_10 : decode cX6_mayDog 10 = .ok (.aload_n 0, 1) := by decide +kernel
theorem dX6_mayDog_11 : decode cX6_mayDog 11 = .ok (.getfield 119, 3) := by decide +kernel
theorem dX6_mayDog_14 : decode cX6_mayDog 14 = .ok (.if_icmp .eq 7, 3) := by decide +kernel
theorem dX6_mayDog_17 : decode cX6_mayDog 17 = .ok (.iconst 1, 1) := by decide +kernel
theorem dX6_mayDog_18 : decode cX6_mayDog 18 = .ok (.goto 4, 3) := by decide +kernel
theorem dX6_mayDog_21 : decode cX6_mayDog 21 = .ok (.iconst 0, 1) := by decide +kernel
theorem dX6_mayDog_22 : decode cX6_mayDog 22 = .ok (.ireturn, 1) := by decide +kernel
theorem dX6_dog_0 : decode cX6_dog 0 = .ok (.aload_n 0, 1) := by decide +kernel
theorem dX6_dog_1 : decode cX6_dog 1 = .ok (.iload_n 1, 1) := by decide +kernel
theorem dX6_dog_2 : decode cX6_dog 2 = .ok (.i2l, 1) := by decide +kernel
theorem dX6_dog_3 : decode cX6_dog 3 = .ok (.invokevirtual 128, 3) := by decide +kernel
theorem dX6_dog_6 : decode cX6_dog 6 = .ok (.ifCond .ne 10, 3) := by decide +kernel
theorem dX6_dog_9 : decode cX6_dog 9 = .ok (.aload_n 0, 1) := by decide +kernel
theorem dX6_dog_10 : decode cX6_dog 10 = .ok (.bipush (-2), 2) := by decide +kernel
theorem dX6_dog_12 : decode cX6_dog 12 = .ok (.invokevirtual 83, 3) := by decide +kernel
theorem dX6_dog_15 : decode cX6_dog 15 = .ok (.ireturn, 1) := by decide +kernel
theorem dX6_dog_16 : decode cX6_dog 16 = .ok (.aload_n 0, 1) := by decide +kernel
theorem dX6_dog_17 : decode cX6_dog 17 = .ok (.iload_n 1, 1) := by decide +kernel
theorem dX6_dog_18 : decode cX6_dog 18 = .ok (.invokevirtual 142, 3) := by decide +kernel
theorem dX6_dog_21 : decode cX6_dog 21 = .ok (.ifCond .ne 10, 3) := by decide +kernel
theorem dX6_dog_24 : decode cX6_dog 24 = .ok (.aload_n 0, 1) := by decide +kernel
theorem dX6_dog_25 : decode cX6_dog 25 = .ok (.bipush (-5), 2) := by decide +kernel
theorem dX6_dog_27 : decode cX6_dog 27 = .ok (.invokevirtual 83, 3) := by decide +kernel
theorem dX6_dog_30 : decode cX6_dog 30 = .ok (.ireturn, 1) := by decide +kernel
theorem dX6_dog_31 : decode cX6_dog 31 = .ok (.aload_n 0, 1) := by decide +kernel
theorem dX6_dog_32 : decode cX6_dog 32 = .ok (.getfield 61, 3) := by decide +kernel
theorem dX6_dog_35 : decode cX6_dog 35 = .ok (.istore_n 2, 1) := by decide +kernel
theorem dX6_dog_36 : decode cX6_dog 36 = .ok (.aload_n 0, 1) := by decide +kernel
theorem dX6_dog_37 : decode cX6_dog 37 = .ok (.iload_n 1, 1) := by decide +kernel
theorem dX6_dog_38 : decode cX6_dog 38 = .ok (.putfield 61, 3) := by decide +kernel
theorem dX6_dog_41 : decode cX6_dog 41 = .ok (.iload_n 2, 1) := by decide +kernel
theorem dX6_dog_42 : decode cX6_dog 42 = .ok (.ireturn, 1) := by decide +kernel
theorem dX6_newEwe_0 : decode cX6_newEwe 0 = .ok (.aload_n 0, 1) := by decide +kernel
theorem dX6_newEwe_1 : decode cX6_newEwe 1 = .ok (.getfield 13, 3) := by decide +kernel
theorem dX6_newEwe_4 : decode cX6_newEwe 4 = .ok (.aload_n 0, 1) := by decide +kernel
theorem dX6_newEwe_5 : decode cX6_newEwe 5 = .ok (.getfield 72, 3) := by decide +kernel
theorem dX6_newEwe_8 : decode cX6_newEwe 8 = .ok (.iload_n 1, 1) := by decide +kernel
theorem dX6_newEwe_9 : decode cX6_newEwe 9 = .ok (.iastore, 1) := by decide +kernel
theorem dX6_newEwe_10 : decode cX6_newEwe 10 = .ok (.aload_n 0, 1) := by decide +kernel
theorem dX6_newEwe_11 : decode cX6_newEwe 11 = .ok (.getfield 17, 3) := by decide +kernel
theorem dX6_newEwe_14 : decode cX6_newEwe 14 = .ok (.aload_n 0, 1) := by decide +kernel
theorem dX6_newEwe_15 : decode cX6_newEwe 15 = .ok (.getfield 72, 3) := by decide +kernel
theorem dX6_newEwe_18 : decode cX6_newEwe 18 = .ok (.iload_n 2, 1) := by decide +kernel
theorem dX6_newEwe_19 : decode cX6_newEwe 19 = .ok (.iastore, 1) := by decide +kernel
theorem dX6_newEwe_20 : decode cX6_newEwe 20 = .ok (.aload_n 0, 1) := by decide +kernel
theorem dX6_newEwe_21 : decode cX6_newEwe 21 = .ok (.getfield 20, 3) := by decide +kernel
theorem dX6_newEwe_24 : decode cX6_newEwe 24 = .ok (.aload_n 0, 1) := by decide +kernel
theorem dX6_newEwe_25 : decode cX6_newEwe 25 = .ok (.getfield 72, 3) := by decide +kernel
theorem dX6_newEwe_28 : decode cX6_newEwe 28 = .ok (.iload_n 3, 1) := by decide +kernel
theorem dX6_newEwe_29 : decode cX6_newEwe 29 = .ok (.iastore, 1) := by decide +kernel
theorem dX6_newEwe_30 : decode cX6_newEwe 30 = .ok (.aload_n 0, 1) := by decide +kernel
theorem dX6_newEwe_31 : decode cX6_newEwe 31 = .ok (.dup, 1) := by decide +kernel
theorem dX6_newEwe_32 : decode cX6_newEwe 32 = .ok (.getfield 72, 3) := by decide +kernel
theorem dX6_newEwe_35 : decode cX6_newEwe 35 = .ok (.dup_x1, 1) := by decide +kernel
theorem dX6_newEwe_36 : decode cX6_newEwe 36 = .ok (.iconst 1, 1) := by decide +kernel
theorem dX6_newEwe_37 : decode cX6_newEwe 37 = .ok (.iadd, 1) := by decide +kernel
theorem dX6_newEwe_38 : decode cX6_newEwe 38 = .ok (.putfield 72, 3) := by decide +kernel
theorem dX6_newEwe_41 : decode cX6_newEwe 41 = .ok (.ireturn, 1) := by decide +kernel
theorem dX6_ewe_0 : decode cX6_ewe 0 = .ok (.iload_n 1, 1) := by decide +kernel
theorem dX6_ewe_1 : decode cX6_ewe 1 = .ok (.iconst 0, 1) := by decide +kernel
theorem dX6_ewe_2 : decode cX6_ewe 2 = .ok (.iconst 5, 1) := by decide +kernel
theorem dX6_ewe_3 : decode cX6_ewe 3 = .ok (.invokestatic 75, 3) := by decide +kernel
theorem dX6_ewe_6 : decode cX6_ewe 6 = .ok (.ifCond .eq 22, 3) := by decide +kernel
theorem dX6_ewe_9 : decode cX6_ewe 9 = .ok (.iload_n 2, 1) := by decide +kernel
theorem dX6_ewe_10 : decode cX6_ewe 10 = .ok (.iconst 0, 1) := by decide +kernel
theorem dX6_ewe_11 : decode cX6_ewe 11 = .ok (.bipush 9, 2) := by decide +kernel
theorem dX6_ewe_13 : decode cX6_ewe 13 = .ok (.invokestatic 75, 3) := by decide +kernel
theorem dX6_ewe_16 : decode cX6_ewe 16 = .ok (.ifCond .eq 12, 3) := by decide +kernel
theorem dX6_ewe_19 : decode cX6_ewe 19 = .ok (.aload_n 0, 1) := by decide +kernel
theorem dX6_ewe_20 : decode cX6_ewe 20 = .ok (.iload_n 3, 1) := by decide +kernel
theorem dX6_ewe_21 : decode cX6_ewe 21 = .ok (.i2l, 1) := by decide +kernel
theorem dX6_ewe_22 : decode cX6_ewe 22 = .ok (.invokevirtual 128, 3) := by decide +kernel
theorem dX6_ewe_25 : decode cX6_ewe 25 = .ok (.ifCond .ne 10, 3) := by decide +kernel
theorem dX6_ewe_28 : decode cX6_ewe 28 = .ok (.aload_n 0, 1) := by decide +kernel
theorem dX6_ewe_29 : decode cX6_ewe 29 = .ok (.bipush (-2), 2) := by decide +kernel
theorem dX6_ewe_31 : decode cX6_ewe 31 = .ok (.invokevirtual 83, 3) := by decide +kernel
theorem dX6_ewe_34 : decode cX6_ewe 34 = .ok (.ireturn, 1) := by decide +kernel
theorem dX6_ewe_35 : decode cX6_ewe 35 = .ok (.aload_n 0, 1) := by decide +kernel
theorem dX6_ewe_36 : decode cX6_ewe 36 = .ok (.getfield 7, 3) := by decide +kernel
theorem dX6_ewe_39 : decode cX6_ewe 39 = .ok (.iload_n 3, 1) := by decide +kernel
theorem dX6_ewe_40 : decode cX6_ewe 40 = .ok (.baload, 1) := by decide +kernel
theorem dX6_ewe_41 : decode cX6_ewe 41 = .ok (.ifCond .eq 10, 3) := by decide +kernel
theorem dX6_ewe_44 : decode cX6_ewe 44 = .ok (.aload_n 0, 1) := by decide +kernel
theorem dX6_ewe_45 : decode cX6_ewe 45 = .ok (.bipush (-5), 2) := by decide +kernel
theorem dX6_ewe_47 : decode cX6_ewe 47 = .ok (.invokevirtual 83, 3) := by decide +kernel
theorem dX6_ewe_50 : decode cX6_ewe 50 = .ok (.ireturn, 1) := by decide +kernel
theorem dX6_ewe_51 : decode cX6_ewe 51 = .ok (.aload_n 0, 1) := by decide +kernel
theorem dX6_ewe_52 : decode cX6_ewe 52 = .ok (.getfield 72, 3) := by decide +kernel
theorem dX6_ewe_55 : decode cX6_ewe 55 = .ok (.iconst 5, 1) := by decide +kernel
theorem dX6_ewe_56 : decode cX6_ewe 56 = .ok (.if_icmp .ne 12, 3) := by decide +kernel
theorem dX6_ewe_59 : decode cX6_ewe 59 = .ok (.aload_n 0, 1) := by decide +kernel
theorem dX6_ewe_60 : decode cX6_ewe 60 = .ok (.bipush (-6), 2) := by decide +kernel
theorem dX6_ewe_62 : decode cX6_ewe 62 = .ok (.invokevirtual 83, 3) := by decide +kernel
theorem dX6_ewe_65 : decode cX6_ewe 65 = .ok (.goto 10, 3) := by decide +kernel
theorem dX6_ewe_68 : decode cX6_ewe 68 = .ok (.aload_n 0, 1) := by decide +kernel
theorem dX6_ewe_69 : decode cX6_ewe 69 = .ok (.iload_n 1, 1) := by decide +kernel
theorem dX6_ewe_70 : decode cX6_ewe 70 = .ok (.iload_n 2, 1) := by decide +kernel
theorem dX6_ewe_71 : decode cX6_ewe 71 = .ok (.iload_n 3, 1) := by decide +kernel
theorem dX6_ewe_72 : decode cX6_ewe 72 = .ok (.invokevirtual 145, 3) := by decide +kernel
theorem dX6_ewe_75 : decode cX6_ewe 75 = .ok (.ireturn, 1) := by decide +kernel
theorem dX6_move_0 : decode cX6_move 0 = .ok (.aload_n 0, 1) := by decide +kernel
theorem dX6_move_1 : decode cX6_move 1 = .ok (.iload_n 1, 1) := by decide +kernel
theorem dX6_move_2 : decode cX6_move 2 = .ok (.invokevirtual 97, 3) := by decide +kernel
theorem dX6_move_5 : decode cX6_move 5 = .ok (.ifCond .eq 12, 3) := by decide +kernel
theorem dX6_move_8 : decode cX6_move 8 = .ok (.aload_n 0, 1) := by decide +kernel
theorem dX6_move_9 : decode cX6_move 9 = .ok (.iload_n 2, 1) := by decide +kernel
theorem dX6_move_10 : decode cX6_move 10 = .ok (.i2l, 1) := by decide +kernel
theorem dX6_move_11 : decode cX6_move 11 = .ok (.invokevirtual 128, 3) := by decide +kernel
theorem dX6_move_14 : decode cX6_move 14 = .ok (.ifCond .ne 10, 3) := by decide +kernel
theorem dX6_move_17 : decode cX6_move 17 = .ok (.aload_n 0, 1) := by decide +kernel
theorem dX6_move_18 : decode cX6_move 18 = .ok (.bipush (-2), 2) := by decide +kernel
theorem dX6_move_20 : decode cX6_move 20 = .ok (.invokevirtual 83, 3) := by decide +kernel
theorem dX6_move_23 : decode cX6_move 23 = .ok (.ireturn, 1) := by decide +kernel
theorem dX6_move_24 : decode cX6_move 24 = .ok (.aload_n 0, 1) := by decide +kernel
theorem dX6_move_25 : decode cX6_move 25 = .ok (.getfield 7, 3) := by decide +kernel
theorem dX6_move_28 : decode cX6_move 28 = .ok (.iload_n 2, 1) := by decide +kernel
theorem dX6_move_29 : decode cX6_move 29 = .ok (.baload, 1) := by decide +kernel
theorem dX6_move_30 : decode cX6_move 30 = .ok (.ifCond .eq 10, 3) := by decide +kernel
theorem dX6_move_33 : decode cX6_move 33 = .ok (.aload_n 0, 1) := by decide +kernel
theorem dX6_move_34 : decode cX6_move 34 = .ok (.bipush (-5), 2) := by decide +kernel
theorem dX6_move_36 : decode cX6_move 36 = .ok (.invokevirtual 83, 3) := by decide +kernel
theorem dX6_move_39 : decode cX6_move 39 = .ok (.ireturn, 1) := by decide +kernel
theorem dX6_move_40 : decode cX6_move 40 = .ok (.aload_n 0, 1) := by decide +kernel
theorem dX6_move_41 : decode cX6_move 41 = .ok (.getfield 20, 3) := by decide +kernel
theorem dX6_move_44 : decode cX6_move 44 = .ok (.iload_n 1, 1) := by decide +kernel
theorem dX6_move_45 : decode cX6_move 45 = .ok (.iaload, 1) := by decide +kernel
theorem dX6_move_46 : decode cX6_move 46 = .ok (.istore_n 3, 1) := by decide +kernel
theorem dX6_move_47 : decode cX6_move 47 = .ok (.aload_n 0, 1) := by decide +kernel
theorem dX6_move_48 : decode cX6_move 48 = .ok (.getfield 20, 3) := by decide +kernel
theorem dX6_move_51 : decode cX6_move 51 = .ok (.iload_n 1, 1) := by decide +kernel
theorem dX6_move_52 : decode cX6_move 52 = .ok (.iload_n 2, 1) := by decide +kernel
theorem dX6_move_53 : decode cX6_move 53 = .ok (.iastore, 1) := by decide +kernel
theorem dX6_move_54 : decode cX6_move 54 = .ok (.iload_n 3, 1) := by decide +kernel
theorem dX6_move_55 : decode cX6_move 55 = .ok (.ireturn, 1) := by decide +kernel
theorem dX6_wind_0 : decode cX6_wind 0 = .ok (.iload_n 1, 1) := by decide +kernel
theorem dX6_wind_1 : decode cX6_wind 1 = .ok (.iconst 0, 1) := by decide +kernel
theorem dX6_wind_2 : decode cX6_wind 2 = .ok (.bipush 12, 2) := by decide +kernel
theorem dX6_wind_4 : decode cX6_wind 4 = .ok (.invokestatic 75, 3) := by decide +kernel
theorem dX6_wind_7 : decode cX6_wind 7 = .ok (.ifCond .ne 10, 3) := by decide +kernel
theorem dX6_wind_10 : decode cX6_wind 10 = .ok (.aload_n 0, 1) := by decide +kernel
theorem dX6_wind_11 : decode cX6_wind 11 = .ok (.bipush (-2), 2) := by decide +kernel
theorem dX6_wind_13 : decode cX6_wind 13 = .ok (.invokevirtual 83, 3) := by decide +kernel
theorem dX6_wind_16 : decode cX6_wind 16 = .ok (.ireturn, 1) := by decide +kernel
theorem dX6_wind_17 : decode cX6_wind 17 = .ok (.aload_n 0, 1) := by decide +kernel
theorem dX6_wind_18 : decode cX6_wind 18 = .ok (.getfield 64, 3) := by decide +kernel
theorem dX6_wind_21 : decode cX6_wind 21 = .ok (.istore_n 2, 1) := by decide +kernel
theorem dX6_wind_22 : decode cX6_wind 22 = .ok (.aload_n 0, 1) := by decide +kernel
theorem dX6_wind_23 : decode cX6_wind 23 = .ok (.iload_n 1, 1) := by decide +kernel
theorem dX6_wind_24 : decode cX6_wind 24 = .ok (.putfield 64, 3) := by decide +kernel
theorem dX6_wind_27 : decode cX6_wind 27 = .ok (.iload_n 2, 1) := by decide +kernel
theorem dX6_wind_28 : decode cX6_wind 28 = .ok (.ireturn, 1) := by decide +kernel
theorem dX6_feed_0 : decode cX6_feed 0 = .ok (.iload_n 1, 1) := by decide +kernel
theorem dX6_feed_1 : decode cX6_feed 1 = .ok (.iconst 0, 1) := by decide +kernel
theorem dX6_feed_2 : decode cX6_feed 2 = .ok (.sipush 255, 3) := by decide +kernel
theorem dX6_feed_5 : decode cX6_feed 5 = .ok (.invokestatic 75, 3) := by decide +kernel
theorem dX6_feed_8 : decode cX6_feed 8 = .ok (.ifCond .ne 10, 3) := by decide +kernel
theorem dX6_feed_11 : decode cX6_feed 11 = .ok (.aload_n 0, 1) := by decide +kernel
theorem dX6_feed_12 : decode cX6_feed 12 = .ok (.bipush (-2), 2) := by decide +kernel
theorem dX6_feed_14 : decode cX6_feed 14 = .ok (.invokevirtual 83, 3) := by decide +kernel
theorem dX6_feed_17 : decode cX6_feed 17 = .ok (.ireturn, 1) := by decide +kernel
theorem dX6_feed_18 : decode cX6_feed 18 = .ok (.aload_n 0, 1) := by decide +kernel
theorem dX6_feed_19 : decode cX6_feed 19 = .ok (.getfield 149, 3) := by decide +kernel
theorem dX6_feed_22 : decode cX6_feed 22 = .ok (.sipush 250, 3) := by decide +kernel
theorem dX6_feed_25 : decode cX6_feed 25 = .ok (.if_icmp .ne 10, 3) := by decide +kernel
theorem dX6_feed_28 : decode cX6_feed 28 = .ok (.aload_n 0, 1) := by decide +kernel
theorem dX6_feed_29 : decode cX6_feed 29 = .ok (.bipush (-6), 2) := by decide +kernel
theorem dX6_feed_31 : decode cX6_feed 31 = .ok (.invokevirtual 83, 3) := by decide +kernel
theorem dX6_feed_34 : decode cX6_feed 34 = .ok (.ireturn, 1) := by decide +kernel
theorem dX6_feed_35 : decode cX6_feed 35 = .ok (.aload_n 0, 1) := by decide +kernel
theorem dX6_feed_36 : decode cX6_feed 36 = .ok (.getfield 23, 3) := by decide +kernel
theorem dX6_feed_39 : decode cX6_feed 39 = .ok (.aload_n 0, 1) := by decide +kernel
theorem dX6_feed_40 : decode cX6_feed 40 = .ok (.dup, 1) := by decide +kernel
theorem dX6_feed_41 : decode cX6_feed 41 = .ok (.getfield 149, 3) := by decide +kernel
theorem dX6_feed_44 : decode cX6_feed 44 = .ok (.dup_x1, 1) := by decide +kernel
theorem dX6_feed_45 : decode cX6_feed 45 = .ok (.iconst 1, 1) := by decide +kernel
theorem dX6_feed_46 : decode cX6_feed 46 = .ok (.iadd, 1) := by decide +kernel
theorem dX6_feed_47 : decode cX6_feed 47 = .ok (.putfield 149, 3) := by decide +kernel
theorem dX6_feed_50 : decode cX6_feed 50 = .ok (.iload_n 1, 1) := by decide +kernel
theorem dX6_feed_51 : decode cX6_feed 51 = .ok (.iastore, 1) := by decide +kernel
theorem dX6_feed_52 : decode cX6_feed 52 = .ok (.aload_n 0, 1) := by decide +kernel
theorem dX6_feed_53 : decode cX6_feed 53 = .ok (.getfield 149, 3) := by decide +kernel
theorem dX6_feed_56 : decode cX6_feed 56 = .ok (.ireturn, 1) := by decide +kernel
theorem dX6_wipe_0 : decode cX6_wipe 0 = .ok (.aload_n 0, 1) := by decide +kernel
theorem dX6_wipe_1 : decode cX6_wipe 1 = .ok (.getfield 149, 3) := by decide +kernel
theorem dX6_wipe_4 : decode cX6_wipe 4 = .ok (.istore_n 1, 1) := by decide +kernel
theorem dX6_wipe_5 : decode cX6_wipe 5 = .ok (.aload_n 0, 1) := by decide +kernel
theorem dX6_wipe_6 : decode cX6_wipe 6 = .ok (.iconst 0, 1) := by decide +kernel
theorem dX6_wipe_7 : decode cX6_wipe 7 = .ok (.putfield 149, 3) := by decide +kernel
theorem dX6_wipe_10 : decode cX6_wipe 10 = .ok (.iload_n 1, 1) := by decide +kernel
theorem dX6_wipe_11 : decode cX6_wipe 11 = .ok (.ireturn, 1) := by decide +kernel
theorem dX6_isLetter_0 : decode cX6_isLetter 0 = .ok (.iload_n 0, 1) := by decide +kernel
theorem dX6_isLetter_1 : decode cX6_isLetter 1 = .ok (.bipush 97, 2) := by decide +kernel
theorem dX6_isLetter_3 : decode cX6_isLetter 3 = .ok (.if_icmp .lt 13, 3) := by decide +kernel
theorem dX6_isLetter_6 : decode cX6_isLetter 6 = .ok (.iload_n 0, 1) := by decide +kernel
theorem dX6_isLetter_7 : decode cX6_isLetter 7 = .ok (.bipush 122, 2) := by decide +kernel
theorem dX6_isLetter_9 : decode cX6_isLetter 9 = .ok (.if_icmp .gt 7, 3) := by decide +kernel
theorem dX6_isLetter_12 : decode cX6_isLetter 12 = .ok (.iconst 1, 1) := by decide +kernel
theorem dX6_isLetter_13 : decode cX6_isLetter 13 = .ok (.goto 4, 3) := by decide +kernel
theorem dX6_isLetter_16 : decode cX6_isLetter 16 = .ok (.iconst 0, 1) := by decide +kernel
theorem dX6_isLetter_17 : decode cX6_isLetter 17 = .ok (.ireturn, 1) := by decide +kernel
theorem dX6_isDigit_0 : decode cX6_isDigit 0 = .ok (.iload_n 0, 1) := by decide +kernel
theorem dX6_isDigit_1 : decode cX6_isDigit 1 = .ok (.bipush 48, 2) := by decide +kernel
theorem dX6_isDigit_3 : decode cX6_isDigit 3 = .ok (.if_icmp .lt 13, 3) := by decide +kernel
theorem dX6_isDigit_6 : decode cX6_isDigit 6 = .ok (.iload_n 0, 1) := by decide +kernel
theorem dX6_isDigit_7 : decode cX6_isDigit 7 = .ok (.bipush 57, 2) := by decide +kernel
theorem dX6_isDigit_9 : decode cX6_isDigit 9 = .ok (.if_icmp .gt 7, 3) := by decide +kernel
theorem dX6_isDigit_12 : decode cX6_isDigit 12 = .ok (.iconst 1, 1) := by decide +kernel
theorem dX6_isDigit_13 : decode cX6_isDigit 13 = .ok (.goto 4, 3) := by decide +kernel
theorem dX6_isDigit_16 : decode cX6_isDigit 16 = .ok (.iconst 0, 1) := by decide +kernel
theorem dX6_isDigit_17 : decode cX6_isDigit 17 = .ok (.ireturn, 1) := by decide +kernel
theorem dX6_next_0 : decode cX6_next 0 = .ok (.aload_n 0, 1) := by decide +kernel
theorem dX6_next_1 : decode cX6_next 1 = .ok (.aload_n 0, 1) := by decide +kernel
theorem dX6_next_2 : decode cX6_next 2 = .ok (.getfield 152, 3) := by decide +kernel
theorem dX6_next_5 : decode cX6_next 5 = .ok (.putfield 155, 3) := by decide +kernel
theorem dX6_next_8 : decode cX6_next 8 = .ok (.aload_n 0, 1) := by decide +kernel
theorem dX6_next_9 : decode cX6_next 9 = .ok (.getfield 155, 3) := by decide +kernel
theorem dX6_next_12 : decode cX6_next 12 = .ok (.aload_n 0, 1) := by decide +kernel
theorem dX6_next_13 : decode cX6_next 13 = .ok (.getfield 149, 3) := by decide +kernel
theorem dX6_next_16 : decode cX6_next 16 = .ok (.if_icmp .ge 30, 3) := by decide +kernel
theorem dX6_next_19 : decode cX6_next 19 = .ok (.aload_n 0, 1) := by decide +kernel
theorem dX6_next_20 : decode cX6_next 20 = .ok (.getfield 23, 3) := by decide +kernel
theorem dX6_next_23 : decode cX6_next 23 = .ok (.aload_n 0, 1) := by decide +kernel
theorem dX6_next_24 : decode cX6_next 24 = .ok (.getfield 155, 3) := by decide +kernel
theorem dX6_next_27 : decode cX6_next 27 = .ok (.iaload, 1) := by decide +kernel
theorem dX6_next_28 : decode cX6_next 28 = .ok (.bipush 32, 2) := by decide +kernel
theorem dX6_next_30 : decode cX6_next 30 = .ok (.if_icmp .ne 16, 3) := by decide +kernel
theorem dX6_next_33 : decode cX6_next 33 = .ok (.aload_n 0, 1) := by decide +kernel
theorem dX6_next_34 : decode cX6_next 34 = .ok (.dup, 1) := by decide +kernel
theorem dX6_next_35 : decode cX6_next 35 = .ok (.getfield 155, 3) := by decide +kernel
theorem dX6_next_38 : decode cX6_next 38 = .ok (.iconst 1, 1) := by decide +kernel
theorem dX6_next_39 : decode cX6_next 39 = .ok (.iadd, 1) := by decide +kernel
theorem dX6_next_40 : decode cX6_next 40 = .ok (.putfield 155, 3) := by decide +kernel
theorem dX6_next_43 : decode cX6_next 43 = .ok (.goto (-35), 3) := by decide +kernel
theorem dX6_next_46 : decode cX6_next 46 = .ok (.aload_n 0, 1) := by decide +kernel
theorem dX6_next_47 : decode cX6_next 47 = .ok (.aload_n 0, 1) := by decide +kernel
theorem dX6_next_48 : decode cX6_next 48 = .ok (.getfield 155, 3) := by decide +kernel
theorem dX6_next_51 : decode cX6_next 51 = .ok (.putfield 152, 3) := by decide +kernel
theorem dX6_next_54 : decode cX6_next 54 = .ok (.aload_n 0, 1) := by decide +kernel
theorem dX6_next_55 : decode cX6_next 55 = .ok (.getfield 155, 3) := by decide +kernel
theorem dX6_next_58 : decode cX6_next 58 = .ok (.aload_n 0, 1) := by decide +kernel
theorem dX6_next_59 : decode cX6_next 59 = .ok (.getfield 149, 3) := by decide +kernel
theorem dX6_next_62 : decode cX6_next 62 = .ok (.if_icmp .ne 10, 3) := by decide +kernel
theorem dX6_next_65 : decode cX6_next 65 = .ok (.aload_n 0, 1) := by decide +kernel
theorem dX6_next_66 : decode cX6_next 66 = .ok (.bipush 101, 2) := by decide +kernel
theorem dX6_next_68 : decode cX6_next 68 = .ok (.putfield 158, 3) := by decide +kernel
theorem dX6_next_71 : decode cX6_next 71 = .ok (.return_, 1) := by decide +kernel
theorem dX6_next_72 : decode cX6_next 72 = .ok (.aload_n 0, 1) := by decide +kernel
theorem dX6_next_73 : decode cX6_next 73 = .ok (.getfield 23, 3) := by decide +kernel
theorem dX6_next_76 : decode cX6_next 76 = .ok (.aload_n 0, 1) := by decide +kernel
theorem dX6_next_77 : decode cX6_next 77 = .ok (.dup, 1) := by decide +kernel
theorem dX6_next_78 : decode cX6_next 78 = .ok (.getfield 152, 3) := by decide +kernel
theorem dX6_next_81 : decode cX6_next 81 = .ok (.dup_x1, 1) := by decide +kernel
theorem dX6_next_82 : decode cX6_next 82 = .ok (.iconst 1, 1) := by decide +kernel
theorem dX6_next_83 : decode cX6_next 83 = .ok (.iadd, 1) := by decide +kernel
theorem dX6_next_84 : decode cX6_next 84 = .ok (.putfield 152, 3) := by decide +kernel
theorem dX6_next_87 : decode cX6_next 87 = .ok (.iaload, 1) := by decide +kernel
theorem dX6_next_88 : decode cX6_next 88 = .ok (.istore_n 1, 1) := by decide +kernel
theorem dX6_next_89 : decode cX6_next 89 = .ok (.iload_n 1, 1) := by decide +kernel
theorem dX6_next_90 : decode cX6_next 90 = .ok (.invokestatic 161, 3) := by decide +kernel
theorem dX6_next_93 : decode cX6_next 93 = .ok (.ifCond .eq 51, 3) := by decide +kernel
theorem dX6_next_96 : decode cX6_next 96 = .ok (.aload_n 0, 1) := by decide +kernel
theorem dX6_next_97 : decode cX6_next 97 = .ok (.getfield 152, 3) := by decide +kernel
theorem dX6_next_100 : decode cX6_next 100 = .ok (.aload_n 0, 1) := by decide +kernel
theorem dX6_next_101 : decode cX6_next 101 = .ok (.getfield 149, 3) := by decide +kernel
theorem dX6_next_104 : decode cX6_next 104 = .ok (.if_icmp .ge 31, 3) := by decide +kernel
theorem dX6_next_107 : decode cX6_next 107 = .ok (.aload_n 0, 1) := by decide +kernel
theorem dX6_next_108 : decode cX6_next 108 = .ok (.getfield 23, 3) := by decide +kernel
theorem dX6_next_111 : decode cX6_next 111 = .ok (.aload_n 0, 1) := by decide +kernel
theorem dX6_next_112 : decode cX6_next 112 = .ok (.getfield 152, 3) := by decide +kernel
theorem dX6_next_115 : decode cX6_next 115 = .ok (.iaload, 1) := by decide +kernel
theorem dX6_next_116 : decode cX6_next 116 = .ok (.invokestatic 161, 3) := by decide +kernel
theorem dX6_next_119 : decode cX6_next 119 = .ok (.ifCond .eq 16, 3) := by decide +kernel
theorem dX6_next_122 : decode cX6_next 122 = .ok (.aload_n 0, 1) := by decide +kernel
theorem dX6_next_123 : decode cX6_next 123 = .ok (.dup, 1) := by decide +kernel
theorem dX6_next_124 : decode cX6_next 124 = .ok (.getfield 152, 3) := by decide +kernel
theorem dX6_next_127 : decode cX6_next 127 = .ok (.iconst 1, 1) := by decide +kernel
theorem dX6_next_128 : decode cX6_next 128 = .ok (.iadd, 1) := by decide +kernel
theorem dX6_next_129 : decode cX6_next 129 = .ok (.putfield 152, 3) := by decide +kernel
theorem dX6_next_132 : decode cX6_next 132 = .ok (.goto (-36), 3) := by decide +kernel
theorem dX6_next_135 : decode cX6_next 135 = .ok (.aload_n 0, 1) := by decide +kernel
theorem dX6_next_136 : decode cX6_next 136 = .ok (.bipush 119, 2) := by decide +kernel
theorem dX6_next_138 : decode cX6_next 138 = .ok (.putfield 158, 3) := by decide +kernel
theorem dX6_next_141 : decode cX6_next 141 = .ok (.goto 138, 3) := by decide +kernel
theorem dX6_next_144 : decode cX6_next 144 = .ok (.iload_n 1, 1) := by decide +kernel
theorem dX6_next_145 : decode cX6_next 145 = .ok (.invokestatic 164, 3) := by decide +kernel
theorem dX6_next_148 : decode cX6_next 148 = .ok (.ifCond .eq 114, 3) := by decide +kernel
theorem dX6_next_151 : decode cX6_next 151 = .ok (.aload_n 0, 1) := by decide +kernel
theorem dX6_next_152 : decode cX6_next 152 = .ok (.iload_n 1, 1) := by decide +kernel
theorem dX6_next_153 : decode cX6_next 153 = .ok (.bipush 48, 2) := by decide +kernel
theorem dX6_next_155 : decode cX6_next 155 = .ok (.isub, 1) := by decide +kernel
theorem dX6_next_156 : decode cX6_next 156 = .ok (.putfield 167, 3) := by decide +kernel
theorem dX6_next_159 : decode cX6_next 159 = .ok (.aload_n 0, 1) := by decide +kernel
theorem dX6_next_160 : decode cX6_next 160 = .ok (.getfield 152, 3) := by decide +kernel
theorem dX6_next_163 : decode cX6_next 163 = .ok (.aload_n 0, 1) := by decide +kernel
theorem dX6_next_164 : decode cX6_next 164 = .ok (.getfield 149, 3) := by decide +kernel
theorem dX6_next_167 : decode cX6_next 167 = .ok (.if_icmp .ge 68, 3) := by decide +kernel
theorem dX6_next_170 : decode cX6_next 170 = .ok (.aload_n 0, 1) := by decide +kernel
theorem dX6_next_171 : decode cX6_next 171 = .ok (.getfield 23, 3) := by decide +kernel
theorem dX6_next_174 : decode cX6_next 174 = .ok (.aload_n 0, 1) := by decide +kernel
theorem dX6_next_175 : decode cX6_next 175 = .ok (.getfield 152, 3) := by decide +kernel
theorem dX6_next_178 : decode cX6_next 178 = .ok (.iaload, 1) := by decide +kernel
theorem dX6_next_179 : decode cX6_next 179 = .ok (.invokestatic 164, 3) := by decide +kernel
theorem dX6_next_182 : decode cX6_next 182 = .ok (.ifCond .eq 53, 3) := by decide +kernel
theorem dX6_next_185 : decode cX6_next 185 = .ok (.aload_n 0, 1) := by decide +kernel
theorem dX6_next_186 : decode cX6_next 186 = .ok (.getfield 152, 3) := by decide +kernel
theorem dX6_next_189 : decode cX6_next 189 = .ok (.aload_n 0, 1) := by decide +kernel
theorem dX6_next_190 : decode cX6_next 190 = .ok (.getfield 155, 3) := by decide +kernel
theorem dX6_next_193 : decode cX6_next 193 = .ok (.isub, 1) := by decide +kernel
theorem dX6_next_194 : decode cX6_next 194 = .ok (.iconst 2, 1) := by decide +kernel
theorem dX6_next_195 : decode cX6_next 195 = .ok (.if_icmp .ge 27, 3) := by decide +kernel
theorem dX6_next_198 : decode cX6_next 198 = .ok (.aload_n 0, 1) := by decide +kernel
theorem dX6_next_199 : decode cX6_next 199 = .ok (.bipush 10, 2) := by decide +kernel
theorem dX6_next_201 : decode cX6_next 201 = .ok (.aload_n 0, 1) := by decide +kernel
theorem dX6_next_202 : decode cX6_next 202 = .ok (.getfield 167, 3) := by decide +kernel
theorem dX6_next_205 : decode cX6_next 205 = .ok (.imul, 1) := by decide +kernel
theorem dX6_next_206 : decode cX6_next 206 = .ok (.aload_n 0, 1) := by decide +kernel
theorem dX6_next_207 : decode cX6_next 207 = .ok (.getfield 23, 3) := by decide +kernel
theorem dX6_next_210 : decode cX6_next 210 = .ok (.aload_n 0, 1) := by decide +kernel
theorem dX6_next_211 : decode cX6_next 211 = .ok (.getfield 152, 3) := by decide +kernel
theorem dX6_next_214 : decode cX6_next 214 = .ok (.iaload, 1) := by decide +kernel
theorem dX6_next_215 : decode cX6_next 215 = .ok (.iadd, 1) := by decide +kernel
theorem dX6_next_216 : decode cX6_next 216 = .ok (.bipush 48, 2) := by decide +kernel
theorem dX6_next_218 : decode cX6_next 218 = .ok (.isub, 1) := by decide +kernel
theorem dX6_next_219 : decode cX6_next 219 = .ok (.putfield 167, 3) := by decide +kernel
theorem dX6_next_222 : decode cX6_next 222 = .ok (.aload_n 0, 1) := by decide +kernel
theorem dX6_next_223 : decode cX6_next 223 = .ok (.dup, 1) := by decide +kernel
theorem dX6_next_224 : decode cX6_next 224 = .ok (.getfield 152, 3) := by decide +kernel
theorem dX6_next_227 : decode cX6_next 227 = .ok (.iconst 1, 1) := by decide +kernel
theorem dX6_next_228 : decode cX6_next 228 = .ok (.iadd, 1) := by decide +kernel
theorem dX6_next_229 : decode cX6_next 229 = .ok (.putfield 152, 3) := by decide +kernel
theorem dX6_next_232 : decode cX6_next 232 = .ok (.goto (-73), 3) := by decide +kernel
theorem dX6_next_235 : decode cX6_next 235 = .ok (.aload_n 0, 1) := by decide +kernel
theorem dX6_next_236 : decode cX6_next 236 = .ok (.aload_n 0, 1) := by decide +kernel
theorem dX6_next_237 : decode cX6_next 237 = .ok (.getfield 152, 3) := by decide +kernel
theorem dX6_next_240 : decode cX6_next 240 = .ok (.aload_n 0, 1) := by decide +kernel
theorem dX6_next_241 : decode cX6_next 241 = .ok (.getfield 155, 3) := by decide +kernel
theorem dX6_next_244 : decode cX6_next 244 = .ok (.isub, 1) := by decide +kernel
theorem dX6_next_245 : decode cX6_next 245 = .ok (.iconst 2, 1) := by decide +kernel
theorem dX6_next_246 : decode cX6_next 246 = .ok (.if_icmp .le 8, 3) := by decide +kernel
theorem dX6_next_249 : decode cX6_next 249 = .ok (.bipush 120, 2) := by decide +kernel
theorem dX6_next_251 : decode cX6_next 251 = .ok (.goto 5, 3) := by decide +kernel
theorem dX6_next_254 : decode cX6_next 254 = .ok (.bipush 48, 2) := by decide +kernel
theorem dX6_next_256 : decode cX6_next 256 = .ok (.putfield 158, 3) := by decide +kernel
theorem dX6_next_259 : decode cX6_next 259 = .ok (.goto 20, 3) := by decide +kernel
theorem dX6_next_262 : decode cX6_next 262 = .ok (.aload_n 0, 1) := by decide +kernel
theorem dX6_next_263 : decode cX6_next 263 = .ok (.iload_n 1, 1) := by decide +kernel
theorem dX6_next_264 : decode cX6_next 264 = .ok (.bipush 59, 2) := by decide +kernel
theorem dX6_next_266 : decode cX6_next 266 = .ok (.if_icmp .ne 8, 3) := by decide +kernel
theorem dX6_next_269 : decode cX6_next 269 = .ok (.bipush 59, 2) := by decide +kernel
theorem dX6_next_271 : decode cX6_next 271 = .ok (.goto 5, 3) := by decide +kernel
theorem dX6_next_274 : decode cX6_next 274 = .ok (.bipush 120, 2) := by decide +kernel
theorem dX6_next_276 : decode cX6_next 276 = .ok (.putfield 158, 3) := by decide +kernel
theorem dX6_next_279 : decode cX6_next 279 = .ok (.return_, 1) := by decide +kernel
theorem dX6_isWord_0 : decode cX6_isWord 0 = .ok (.aload_n 0, 1) := by decide +kernel
theorem dX6_isWord_1 : decode cX6_isWord 1 = .ok (.getfield 158, 3) := by decide +kernel
theorem dX6_isWord_4 : decode cX6_isWord 4 = .ok (.bipush 119, 2) := by decide +kernel
theorem dX6_isWord_6 : decode cX6_isWord 6 = .ok (.if_icmp .ne 19, 3) := by decide +kernel
theorem dX6_isWord_9 : decode cX6_isWord 9 = .ok (.aload_n 0, 1) := by decide +kernel
theorem dX6_isWord_10 : decode cX6_isWord 10 = .ok (.getfield 152, 3) := by decide +kernel
theorem dX6_isWord_13 : decode cX6_isWord 13 = .ok (.aload_n 0, 1) := by decide +kernel
theorem dX6_isWord_14 : decode cX6_isWord 14 = .ok (.getfield 155, 3) := by decide +kernel
theorem dX6_isWord_17 : decode cX6_isWord 17 = .ok (.isub, 1) := by decide +kernel
theorem dX6_isWord_18 : decode cX6_isWord 18 = .ok (.aload_n 1, 1) := by decide +kernel
theorem dX6_isWord_19 : decode cX6_isWord 19 = .ok (.invokevirtual 170, 3) := by decide +kernel
theorem dX6_isWord_22 : decode cX6_isWord 22 = .ok (.if_icmp .eq 5, 3) := by decide +kernel
theorem dX6_isWord_25 : decode cX6_isWord 25 = .ok (.iconst 0, 1) := by decide +kernel
theorem dX6_isWord_26 : decode cX6_isWord 26 = .ok (.ireturn, 1) := by decide +kernel
theorem dX6_isWord_27 : decode cX6_isWord 27 = .ok (.iconst 0, 1) := by decide +kernel
theorem dX6_isWord_28 : decode cX6_isWord 28 = .ok (.istore_n 2, 1) := by decide +kernel
theorem dX6_isWord_29 : decode cX6_isWord 29 = .ok (.iload_n 2, 1) := by decide +kernel
theorem dX6_isWord_30 : decode cX6_isWord 30 = .ok (.aload_n 1, 1) := by decide +kernel
theorem dX6_isWord_31 : decode cX6_isWord 31 = .ok (.invokevirtual 170, 3) := by decide +kernel
theorem dX6_isWord_34 : decode cX6_isWord 34 = .ok (.if_icmp .ge 30, 3) := by decide +kernel
theorem dX6_isWord_37 : decode cX6_isWord 37 = .ok (.aload_n 0, 1) := by decide +kernel
theorem dX6_isWord_38 : decode cX6_isWord 38 = .ok (.getfield 23, 3) := by decide +kernel
theorem dX6_isWord_41 : decode cX6_isWord 41 = .ok (.aload_n 0, 1) := by decide +kernel
theorem dX6_isWord_42 : decode cX6_isWord 42 = .ok (.getfield 155, 3) := by decide +kernel
theorem dX6_isWord_45 : decode cX6_isWord 45 = .ok (.iload_n 2, 1) := by decide +kernel
theorem dX6_isWord_46 : decode cX6_isWord 46 = .ok (.iadd, 1) := by decide +kernel
theorem dX6_isWord_47 : decode cX6_isWord 47 = .ok (.iaload, 1) := by decide +kernel
theorem dX6_isWord_48 : decode cX6_isWord 48 = .ok (.aload_n 1, 1) := by decide +kernel
theorem dX6_isWord_49 : decode cX6_isWord 49 = .ok (.iload_n 2, 1) := by decide +kernel
theorem dX6_isWord_50 : decode cX6_isWord 50 = .ok (.invokevirtual 175, 3) := by decide +kernel
theorem dX6_isWord_53 : decode cX6_isWord 53 = .ok (.if_icmp .eq 5, 3) := by decide +kernel
theorem dX6_isWord_56 : decode cX6_isWord 56 = .ok (.iconst 0, 1) := by decide +kernel
theorem dX6_isWord_57 : decode cX6_isWord 57 = .ok (.ireturn, 1) := by decide +kernel
theorem dX6_isWord_58 : decode cX6_isWord 58 = .ok (.iinc 2 1, 3) := by decide +kernel
theorem dX6_isWord_61 : decode cX6_isWord 61 = .ok (.goto (-32), 3) := by decide +kernel
theorem dX6_isWord_64 : decode cX6_isWord 64 = .ok (.iconst 1, 1) := by decide +kernel
theorem dX6_isWord_65 : decode cX6_isWord 65 = .ok (.ireturn, 1) := by decide +kernel
theorem dX6_number_0 : decode cX6_number 0 = .ok (.aload_n 0, 1) := by decide +kernel
theorem dX6_number_1 : decode cX6_number 1 = .ok (.invokevirtual 179, 3) := by decide +kernel
theorem dX6_number_4 : decode cX6_number 4 = .ok (.aload_n 0, 1) := by decide +kernel
theorem dX6_number_5 : decode cX6_number 5 = .ok (.getfield 158, 3) := by decide +kernel
theorem dX6_number_8 : decode cX6_number 8 = .ok (.bipush 48, 2) := by decide +kernel
theorem dX6_number_10 : decode cX6_number 10 = .ok (.if_icmp .ne 22, 3) := by decide +kernel
theorem dX6_number_13 : decode cX6_number 13 = .ok (.aload_n 0, 1) := by decide +kernel
theorem dX6_number_14 : decode cX6_number 14 = .ok (.getfield 167, 3) := by decide +kernel
theorem dX6_number_17 : decode cX6_number 17 = .ok (.iload_n 1, 1) := by decide +kernel
theorem dX6_number_18 : decode cX6_number 18 = .ok (.iload_n 2, 1) := by decide +kernel
theorem dX6_number_19 : decode cX6_number 19 = .ok (.invokestatic 75, 3) := by decide +kernel
theorem dX6_number_22 : decode cX6_number 22 = .ok (.ifCond .eq 10, 3) := by decide +kernel
theorem dX6_number_25 : decode cX6_number 25 = .ok (.aload_n 0, 1) := by decide +kernel
theorem dX6_number_26 : decode cX6_number 26 = .ok (.getfield 167, 3) := by decide +kernel
theorem dX6_number_29 : decode cX6_number 29 = .ok (.goto 4, 3) := by decide +kernel
theorem dX6_number_32 : decode cX6_number 32 = .ok (.iconst (-1), 1) := by decide +kernel
theorem dX6_number_33 : decode cX6_number 33 = .ok (.ireturn, 1) := by decide +kernel
theorem dX6_place_0 : decode cX6_place 0 = .ok (.aload_n 0, 1) := by decide +kernel
theorem dX6_place_1 : decode cX6_place 1 = .ok (.iconst 0, 1) := by decide +kernel
theorem dX6_place_2 : decode cX6_place 2 = .ok (.bipush 66, 2) := by decide +kernel
theorem dX6_place_4 : decode cX6_place 4 = .ok (.invokevirtual 182, 3) := by decide +kernel
theorem dX6_place_7 : decode cX6_place 7 = .ok (.istore_n 1, 1) := by decide +kernel
theorem dX6_place_8 : decode cX6_place 8 = .ok (.iload_n 1, 1) := by decide +kernel
theorem dX6_place_9 : decode cX6_place 9 = .ok (.iconst (-1), 1) := by decide +kernel
theorem dX6_place_10 : decode cX6_place 10 = .ok (.if_icmp .eq 12, 3) := by decide +kernel
theorem dX6_place_13 : decode cX6_place 13 = .ok (.aload_n 0, 1) := by decide +kernel
theorem dX6_place_14 : decode cX6_place 14 = .ok (.iload_n 1, 1) := by decide +kernel
theorem dX6_place_15 : decode cX6_place 15 = .ok (.i2l, 1) := by decide +kernel
theorem dX6_place_16 : decode cX6_place 16 = .ok (.invokevirtual 128, 3) := by decide +kernel
theorem dX6_place_19 : decode cX6_place 19 = .ok (.ifCond .ne 7, 3) := by decide +kernel
theorem dX6_place_22 : decode cX6_place 22 = .ok (.iconst (-1), 1) := by decide +kernel
theorem dX6_place_23 : decode cX6_place 23 = .ok (.goto 4, 3) := by decide +kernel
theorem dX6_place_26 : decode cX6_place 26 = .ok (.iload_n 1, 1) := by decide +kernel
theorem dX6_place_27 : decode cX6_place 27 = .ok (.ireturn, 1) := by decide +kernel
theorem dX6_statement_0 : decode cX6_statement 0 = .ok (.aload_n 0, 1) := by decide +kernel
theorem dX6_statement_1 : decode cX6_statement 1 = .ok (.ldc 186, 2) := by decide +kernel
theorem dX6_statement_3 : decode cX6_statement 3 = .ok (.invokevirtual 188, 3) := by decide +kernel
theorem dX6_statement_6 : decode cX6_statement 6 = .ok (.ifCond .eq 28, 3) := by decide +kernel
theorem dX6_statement_9 : decode cX6_statement 9 = .ok (.aload_n 0, 1) := by decide +kernel
theorem dX6_statement_10 : decode cX6_statement 10 = .ok (.aload_n 0, 1) := by decide +kernel
theorem dX6_statement_11 : decode cX6_statement 11 = .ok (.getfield 57, 3) := by decide +kernel
theorem dX6_statement_14 : decode cX6_statement 14 = .ok (.bipush 7, 2) := by decide +kernel
theorem dX6_statement_16 : decode cX6_statement 16 = .ok (.invokevirtual 182, 3) := by decide +kernel
theorem dX6_statement_19 : decode cX6_statement 19 = .ok (.istore_n 1, 1) := by decide +kernel
theorem dX6_statement_20 : decode cX6_statement 20 = .ok (.iload_n 1, 1) := by decide +kernel
theorem dX6_statement_21 : decode cX6_statement 21 = .ok (.iconst (-1), 1) := by decide +kernel
theorem dX6_statement_22 : decode cX6_statement 22 = .ok (.if_icmp .ne 5, 3) := by decide +kernel
theorem dX6_statement_25 : decode cX6_statement 25 = .ok (.iconst 0, 1) := by decide +kernel
theorem dX6_statement_26 : decode cX6_statement 26 = .ok (.ireturn, 1) := by decide +kernel
theorem dX6_statement_27 : decode cX6_statement 27 = .ok (.aload_n 0, 1) := by decide +kernel
theorem dX6_statement_28 : decode cX6_statement 28 = .ok (.iload_n 1, 1) := by decide +kernel
theorem dX6_statement_29 : decode cX6_statement 29 = .ok (.putfield 57, 3) := by decide +kernel
theorem dX6_statement_32 : decode cX6_statement 32 = .ok (.iconst 1, 1) := by decide +kernel
theorem dX6_statement_33 : decode cX6_statement 33 = .ok (.ireturn, 1) := by decide +kernel
theorem dX6_statement_34 : decode cX6_statement 34 = .ok (.aload_n 0, 1) := by decide +kernel
theorem dX6_statement_35 : decode cX6_statement 35 = .ok (.ldc 192, 2) := by decide +kernel
theorem dX6_statement_37 : decode cX6_statement 37 = .ok (.invokevirtual 188, 3) := by decide +kernel
theorem dX6_statement_40 : decode cX6_statement 40 = .ok (.ifCond .eq 77, 3) := by decide +kernel
theorem dX6_statement_43 : decode cX6_statement 43 = .ok (.aload_n 0, 1) := by decide +kernel
theorem dX6_statement_44 : decode cX6_statement 44 = .ok (.getfield 72, 3) := by decide +kernel
theorem dX6_statement_47 : decode cX6_statement 47 = .ok (.iconst 5, 1) := by decide +kernel
theorem dX6_statement_48 : decode cX6_statement 48 = .ok (.if_icmp .ne 5, 3) := by decide +kernel
theorem dX6_statement_51 : decode cX6_statement 51 = .ok (.iconst 0, 1) := by decide +kernel
theorem dX6_statement_52 : decode cX6_statement 52 = .ok (.ireturn, 1) := by decide +kernel
theorem dX6_statement_53 : decode cX6_statement 53 = .ok (.aload_n 0, 1) := by decide +kernel
theorem dX6_statement_54 : decode cX6_statement 54 = .ok (.iconst 0, 1) := by decide +kernel
theorem dX6_statement_55 : decode cX6_statement 55 = .ok (.iconst 5, 1) := by decide +kernel
theorem dX6_statement_56 : decode cX6_statement 56 = .ok (.invokevirtual 182, 3) := by decide +kernel
theorem dX6_statement_59 : decode cX6_statement 59 = .ok (.istore_n 1, 1) := by decide +kernel
theorem dX6_statement_60 : decode cX6_statement 60 = .ok (.iload_n 1, 1) := by decide +kernel
theorem dX6_statement_61 : decode cX6_statement 61 = .ok (.iconst (-1), 1) := by decide +kernel
theorem dX6_statement_62 : decode cX6_statement 62 = .ok (.if_icmp .ne 7, 3) := by decide +kernel
theorem dX6_statement_65 : decode cX6_statement 65 = .ok (.iconst (-1), 1) := by decide +kernel
theorem dX6_statement_66 : decode cX6_statement 66 = .ok (.goto 10, 3) := by decide +kernel
theorem dX6_statement_69 : decode cX6_statement 69 = .ok (.aload_n 0, 1) := by decide +kernel
theorem dX6_statement_70 : decode cX6_statement 70 = .ok (.iconst 0, 1) := by decide +kernel
theorem dX6_statement_71 : decode cX6_statement 71 = .ok (.bipush 9, 2) := by decide +kernel
theorem dX6_statement_73 : decode cX6_statement 73 = .ok (.invokevirtual 182, 3) := by decide +kernel
theorem dX6_statement_76 : decode cX6_statement 76 = .ok (.istore_n 2, 1) := by decide +kernel
theorem dX6_statement_77 : decode cX6_statement 77 = .ok (.iload_n 2, 1) := by decide +kernel
theorem dX6_statement_78 : decode cX6_statement 78 = .ok (.iconst (-1), 1) := by decide +kernel
theorem dX6_statement_79 : decode cX6_statement 79 = .ok (.if_icmp .ne 7, 3) := by decide +kernel
theorem dX6_statement_82 : decode cX6_statement 82 = .ok (.iconst (-1), 1) := by decide +kernel
theorem dX6_statement_83 : decode cX6_statement 83 = .ok (.goto 7, 3) := by decide +kernel
theorem dX6_statement_86 : decode cX6_statement 86 = .ok (.aload_n 0, 1) := by decide +kernel
theorem dX6_statement_87 : decode cX6_statement 87 = .ok (.invokevirtual 194, 3) := by decide +kernel
theorem dX6_statement_90 : decode cX6_statement 90 = .ok (.istore_n 3, 1) := by decide +kernel
theorem dX6_statement_91 : decode cX6_statement 91 = .ok (.iload_n 3, 1) := by decide +kernel
theorem dX6_statement_92 : decode cX6_statement 92 = .ok (.iconst (-1), 1) := by decide +kernel
theorem dX6_statement_93 : decode cX6_statement 93 = .ok (.if_icmp .eq 12, 3) := by decide +kernel
theorem dX6_statement_96 : decode cX6_statement 96 = .ok (.aload_n 0, 1) := by decide +kernel
theorem dX6_statement_97 : decode cX6_statement 97 = .ok (.getfield 7, 3) := by decide +kernel
theorem dX6_statement_100 : decode cX6_statement 100 = .ok (.iload_n 3, 1) := by decide +kernel
theorem dX6_statement_101 : decode cX6_statement 101 = .ok (.baload, 1) := by decide +kernel
theorem dX6_statement_102 : decode cX6_statement 102 = .ok (.ifCond .eq 5, 3) := by decide +kernel
theorem dX6_statement_105 : decode cX6_statement 105 = .ok (.iconst 0, 1) := by decide +kernel
theorem dX6_statement_106 : decode cX6_statement 106 = .ok (.ireturn, 1) := by decide +kernel
theorem dX6_statement_107 : decode cX6_statement 107 = .ok (.aload_n 0, 1) := by decide +kernel
theorem dX6_statement_108 : decode cX6_statement 108 = .ok (.iload_n 1, 1) := by decide +kernel
theorem dX6_statement_109 : decode cX6_statement 109 = .ok (.iload_n 2, 1) := by decide +kernel
theorem dX6_statement_110 : decode cX6_statement 110 = .ok (.iload_n 3, 1) := by decide +kernel
theorem dX6_statement_111 : decode cX6_statement 111 = .ok (.invokevirtual 145, 3) := by decide +kernel
theorem dX6_statement_114 : decode cX6_statement 114 = .ok (.pop, 1) := by decide +kernel
theorem dX6_statement_115 : decode cX6_statement 115 = .ok (.iconst 1, 1) := by decide +kernel
theorem dX6_statement_116 : decode cX6_statement 116 = .ok (.ireturn, 1) := by decide +kernel
theorem dX6_statement_117 : decode cX6_statement 117 = .ok (.aload_n 0, 1) := by decide +kernel
theorem dX6_statement_118 : decode cX6_statement 118 = .ok (.ldc 197, 2) := by decide +kernel
theorem dX6_statement_120 : decode cX6_statement 120 = .ok (.invokevirtual 188, 3) := by decide +kernel
theorem dX6_statement_123 : decode cX6_statement 123 = .ok (.ifCond .eq 25, 3) := by decide +kernel
theorem dX6_statement_126 : decode cX6_statement 126 = .ok (.aload_n 0, 1) := by decide +kernel
theorem dX6_statement_127 : decode cX6_statement 127 = .ok (.iconst 0, 1) := by decide +kernel
theorem dX6_statement_128 : decode cX6_statement 128 = .ok (.bipush 12, 2) := by decide +kernel
theorem dX6_statement_130 : decode cX6_statement 130 = .ok (.invokevirtual 182, 3) := by decide +kernel
theorem dX6_statement_133 : decode cX6_statement 133 = .ok (.istore_n 1, 1) := by decide +kernel
theorem dX6_statement_134 : decode cX6_statement 134 = .ok (.iload_n 1, 1) := by decide +kernel
theorem dX6_statement_135 : decode cX6_statement 135 = .ok (.iconst (-1), 1) := by decide +kernel
theorem dX6_statement_136 : decode cX6_statement 136 = .ok (.if_icmp .ne 5, 3) := by decide +kernel
theorem dX6_statement_139 : decode cX6_statement 139 = .ok (.iconst 0, 1) := by decide +kernel
theorem dX6_statement_140 : decode cX6_statement 140 = .ok (.ireturn, 1) := by decide +kernel
theorem dX6_statement_141 : decode cX6_statement 141 = .ok (.aload_n 0, 1) := by decide +kernel
theorem dX6_statement_142 : decode cX6_statement 142 = .ok (.iload_n 1, 1) := by decide +kernel
theorem dX6_statement_143 : decode cX6_statement 143 = .ok (.putfield 64, 3) := by decide +kernel
theorem dX6_statement_146 : decode cX6_statement 146 = .ok (.iconst 1, 1) := by decide +kernel
theorem dX6_statement_147 : decode cX6_statement 147 = .ok (.ireturn, 1) := by decide +kernel
theorem dX6_statement_148 : decode cX6_statement 148 = .ok (.aload_n 0, 1) := by decide +kernel
theorem dX6_statement_149 : decode cX6_statement 149 = .ok (.ldc 198, 2) := by decide +kernel
theorem dX6_statement_151 : decode cX6_statement 151 = .ok (.invokevirtual 188, 3) := by decide +kernel
theorem dX6_statement_154 : decode cX6_statement 154 = .ok (.ifCond .eq 7, 3) := by decide +kernel
theorem dX6_statement_157 : decode cX6_statement 157 = .ok (.iconst 0, 1) := by decide +kernel
theorem dX6_statement_158 : decode cX6_statement 158 = .ok (.goto 43, 3) := by decide +kernel
theorem dX6_statement_161 : decode cX6_statement 161 = .ok (.aload_n 0, 1) := by decide +kernel
theorem dX6_statement_162 : decode cX6_statement 162 = .ok (.ldc 200, 2) := by decide +kernel
theorem dX6_statement_164 : decode cX6_statement 164 = .ok (.invokevirtual 188, 3) := by decide +kernel
theorem dX6_statement_167 : decode cX6_statement 167 = .ok (.ifCond .eq 7, 3) := by decide +kernel
theorem dX6_statement_170 : decode cX6_statement 170 = .ok (.iconst 1, 1) := by decide +kernel
theorem dX6_statement_171 : decode cX6_statement 171 = .ok (.goto 30, 3) := by decide +kernel
theorem dX6_statement_174 : decode cX6_statement 174 = .ok (.aload_n 0, 1) := by decide +kernel
theorem dX6_statement_175 : decode cX6_statement 175 = .ok (.ldc 202, 2) := by decide +kernel
theorem dX6_statement_177 : decode cX6_statement 177 = .ok (.invokevirtual 188, 3) := by decide +kernel
theorem dX6_statement_180 : decode cX6_statement 180 = .ok (.ifCond .eq 7, 3) := by decide +kernel
theorem dX6_statement_183 : decode cX6_statement 183 = .ok (.iconst 2, 1) := by decide +kernel
theorem dX6_statement_184 : decode cX6_statement 184 = .ok (.goto 17, 3) := by decide +kernel
theorem dX6_statement_187 : decode cX6_statement 187 = .ok (.aload_n 0, 1) := by decide +kernel
theorem dX6_statement_188 : decode cX6_statement 188 = .ok (.ldc 203, 2) := by decide +kernel
theorem dX6_statement_190 : decode cX6_statement 190 = .ok (.invokevirtual 188, 3) := by decide +kernel
theorem dX6_statement_193 : decode cX6_statement 193 = .ok (.ifCond .eq 7, 3) := by decide +kernel
theorem dX6_statement_196 : decode cX6_statement 196 = .ok (.iconst 3, 1) := by decide +kernel
theorem dX6_statement_197 : decode cX6_statement 197 = .ok (.goto 4, 3) := by decide +kernel
theorem dX6_statement_200 : decode cX6_statement 200 = .ok (.iconst (-1), 1) := by decide +kernel
theorem dX6_statement_201 : decode cX6_statement 201 = .ok (.istore_n 2, 1) := by decide +kernel
theorem dX6_statement_202 : decode cX6_statement 202 = .ok (.iload_n 2, 1) := by decide +kernel
theorem dX6_statement_203 : decode cX6_statement 203 = .ok (.iconst (-1), 1) := by decide +kernel
theorem dX6_statement_204 : decode cX6_statement 204 = .ok (.if_icmp .ne 5, 3) := by decide +kernel
theorem dX6_statement_207 : decode cX6_statement 207 = .ok (.iconst 0, 1) := by decide +kernel
theorem dX6_statement_208 : decode cX6_statement 208 = .ok (.ireturn, 1) := by decide +kernel
theorem dX6_statement_209 : decode cX6_statement 209 = .ok (.aload_n 0, 1) := by decide +kernel
theorem dX6_statement_210 : decode cX6_statement 210 = .ok (.invokevirtual 194, 3) := by decide +kernel
theorem dX6_statement_213 : decode cX6_statement 213 = .ok (.istore_n 1, 1) := by decide +kernel
theorem dX6_statement_214 : decode cX6_statement 214 = .ok (.iload_n 1, 1) := by decide +kernel
theorem dX6_statement_215 : decode cX6_statement 215 = .ok (.iconst (-1), 1) := by decide +kernel
theorem dX6_statement_216 : decode cX6_statement 216 = .ok (.if_icmp .ne 5, 3) := by decide +kernel
theorem dX6_statement_219 : decode cX6_statement 219 = .ok (.iconst 0, 1) := by decide +kernel
theorem dX6_statement_220 : decode cX6_statement 220 = .ok (.ireturn, 1) := by decide +kernel
theorem dX6_statement_221 : decode cX6_statement 221 = .ok (.iload_n 2, 1) := by decide +kernel
theorem dX6_statement_222 : decode cX6_statement 222 = .ok (.ifCond .ne 14, 3) := by decide +kernel
theorem dX6_statement_225 : decode cX6_statement 225 = .ok (.aload_n 0, 1) := by decide +kernel
theorem dX6_statement_226 : decode cX6_statement 226 = .ok (.iload_n 1, 1) := by decide +kernel
theorem dX6_statement_227 : decode cX6_statement 227 = .ok (.invokevirtual 132, 3) := by decide +kernel
theorem dX6_statement_230 : decode cX6_statement 230 = .ok (.ifCond .ne 37, 3) := by decide +kernel
theorem dX6_statement_233 : decode cX6_statement 233 = .ok (.goto 32, 3) := by decide +kernel
theorem dX6_statement_236 : decode cX6_statement 236 = .ok (.iload_n 2, 1) := by decide +kernel
theorem dX6_statement_237 : decode cX6_statement 237 = .ok (.iconst 2, 1) := by decide +kernel
theorem dX6_statement_238 : decode cX6_statement 238 = .ok (.if_icmp .ne 14, 3) := by decide +kernel
theorem dX6_statement_241 : decode cX6_statement 241 = .ok (.aload_n 0, 1) := by decide +kernel
theorem dX6_statement_242 : decode cX6_statement 242 = .ok (.iload_n 1, 1) := by decide +kernel
theorem dX6_statement_243 : decode cX6_statement 243 = .ok (.invokevirtual 139, 3) := by decide +kernel
theorem dX6_statement_246 : decode cX6_statement 246 = .ok (.ifCond .ne 21, 3) := by decide +kernel
theorem dX6_statement_249 : decode cX6_statement 249 = .ok (.goto 16, 3) := by decide +kernel
theorem dX6_statement_252 : decode cX6_statement 252 = .ok (.iload_n 2, 1) := by decide +kernel
theorem dX6_statement_253 : decode cX6_statement 253 = .ok (.iconst 3, 1) := by decide +kernel
theorem dX6_statement_254 : decode cX6_statement 254 = .ok (.if_icmp .ne 13, 3) := by decide +kernel
theorem dX6_statement_257 : decode cX6_statement 257 = .ok (.aload_n 0, 1) := by decide +kernel
theorem dX6_statement_258 : decode cX6_statement 258 = .ok (.iload_n 1, 1) := by decide +kernel
theorem dX6_statement_259 : decode cX6_statement 259 = .ok (.invokevirtual 142, 3) := by decide +kernel
theorem dX6_statement_262 : decode cX6_statement 262 = .ok (.ifCond .ne 5, 3) := by decide +kernel
theorem dX6_statement_265 : decode cX6_statement 265 = .ok (.iconst 0, 1) := by decide +kernel
theorem dX6_statement_266 : decode cX6_statement 266 = .ok (.ireturn, 1) := by decide +kernel
theorem dX6_statement_267 : decode cX6_statement 267 = .ok (.iload_n 2, 1) := by decide +kernel
theorem dX6_statement_268 : decode cX6_statement 268 = .ok (.iconst 2, 1) := by decide +kernel
theorem dX6_statement_269 : decode cX6_statement 269 = .ok (.if_icmp .ge 21, 3) := by decide +kernel
theorem dX6_statement_272 : decode cX6_statement 272 = .ok (.aload_n 0, 1) := by decide +kernel
theorem dX6_statement_273 : decode cX6_statement 273 = .ok (.getfield 7, 3) := by decide +kernel
theorem dX6_statement_276 : decode cX6_statement 276 = .ok (.iload_n 1, 1) := by decide +kernel
theorem dX6_statement_277 : decode cX6_statement 277 = .ok (.iload_n 2, 1) := by decide +kernel
theorem dX6_statement_278 : decode cX6_statement 278 = .ok (.ifCond .ne 7, 3) := by decide +kernel
theorem dX6_statement_281 : decode cX6_statement 281 = .ok (.iconst 1, 1) := by decide +kernel
theorem dX6_statement_282 : decode cX6_statement 282 = .ok (.goto 4, 3) := by decide +kernel
theorem dX6_statement_285 : decode cX6_statement 285 = .ok (.iconst 0, 1) := by decide +kernel
theorem dX6_statement_286 : decode cX6_statement 286 = .ok (.bastore, 1) := by decide +kernel
theorem dX6_statement_287 : decode cX6_statement 287 = .ok (.goto 21, 3) := by decide +kernel
theorem dX6_statement_290 : decode cX6_statement 290 = .ok (.iload_n 2, 1) := by decide +kernel
theorem dX6_statement_291 : decode cX6_statement 291 = .ok (.iconst 2, 1) := by decide +kernel
theorem dX6_statement_292 : decode cX6_statement 292 = .ok (.if_icmp .ne 11, 3) := by decide +kernel
theorem dX6_statement_295 : decode cX6_statement 295 = .ok (.aload_n 0, 1) := by decide +kernel
theorem dX6_statement_296 : decode cX6_statement 296 = .ok (.iload_n 1, 1) := by decide +kernel
theorem dX6_statement_297 : decode cX6_statement 297 = .ok (.putfield 119, 3) := by decide +kernel
theorem dX6_statement_300 : decode cX6_statement 300 = .ok (.goto 8, 3) := by decide +kernel
theorem dX6_statement_303 : decode cX6_statement 303 = .ok (.aload_n 0, 1) := by decide +kernel
theorem dX6_statement_304 : decode cX6_statement 304 = .ok (.iload_n 1, 1) := by decide +kernel
theorem dX6_statement_305 : decode cX6_statement 305 = .ok (.putfield 61, 3) := by decide +kernel
theorem dX6_statement_308 : decode cX6_statement 308 = .ok (.iconst 1, 1) := by decide +kernel
theorem dX6_statement_309 : decode cX6_statement 309 = .ok (.ireturn, 1) := by decide +kernel
theorem dX6_hill_0 : decode cX6_hill 0 = .ok (.aload_n 0, 1) := by decide +kernel
theorem dX6_hill_1 : decode cX6_hill 1 = .ok (.aload_n 0, 1) := by decide +kernel
theorem dX6_hill_2 : decode cX6_hill 2 = .ok (.getfield 42, 3) := by decide +kernel
theorem dX6_hill_5 : decode cX6_hill 5 = .ok (.invokevirtual 204, 3) := by decide +kernel
theorem dX6_hill_8 : decode cX6_hill 8 = .ok (.aload_n 0, 1) := by decide +kernel
theorem dX6_hill_9 : decode cX6_hill 9 = .ok (.iconst 0, 1) := by decide +kernel
theorem dX6_hill_10 : decode cX6_hill 10 = .ok (.putfield 152, 3) := by decide +kernel
theorem dX6_hill_13 : decode cX6_hill 13 = .ok (.iconst 0, 1) := by decide +kernel
theorem dX6_hill_14 : decode cX6_hill 14 = .ok (.istore_n 1, 1) := by decide +kernel
theorem dX6_hill_15 : decode cX6_hill 15 = .ok (.iconst 1, 1) := by decide +kernel
theorem dX6_hill_16 : decode cX6_hill 16 = .ok (.istore_n 2, 1) := by decide +kernel
theorem dX6_hill_17 : decode cX6_hill 17 = .ok (.iload_n 2, 1) := by decide +kernel
theorem dX6_hill_18 : decode cX6_hill 18 = .ok (.ifCond .eq 60, 3) := by decide +kernel
theorem dX6_hill_21 : decode cX6_hill 21 = .ok (.aload_n 0, 1) := by decide +kernel
theorem dX6_hill_22 : decode cX6_hill 22 = .ok (.invokevirtual 179, 3) := by decide +kernel
theorem dX6_hill_25 : decode cX6_hill 25 = .ok (.aload_n 0, 1) := by decide +kernel
theorem dX6_hill_26 : decode cX6_hill 26 = .ok (.invokevirtual 208, 3) := by decide +kernel
theorem dX6_hill_29 : decode cX6_hill 29 = .ok (.istore_n 2, 1) := by decide +kernel
theorem dX6_hill_30 : decode cX6_hill 30 = .ok (.iload_n 2, 1) := by decide +kernel
theorem dX6_hill_31 : decode cX6_hill 31 = .ok (.ifCond .ne 6, 3) := by decide +kernel
theorem dX6_hill_34 : decode cX6_hill 34 = .ok (.goto (-17), 3) := by decide +kernel
theorem dX6_hill_37 : decode cX6_hill 37 = .ok (.iinc 1 1, 3) := by decide +kernel
theorem dX6_hill_40 : decode cX6_hill 40 = .ok (.aload_n 0, 1) := by decide +kernel
theorem dX6_hill_41 : decode cX6_hill 41 = .ok (.invokevirtual 179, 3) := by decide +kernel
theorem dX6_hill_44 : decode cX6_hill 44 = .ok (.aload_n 0, 1) := by decide +kernel
theorem dX6_hill_45 : decode cX6_hill 45 = .ok (.getfield 158, 3) := by decide +kernel
theorem dX6_hill_48 : decode cX6_hill 48 = .ok (.bipush 101, 2) := by decide +kernel
theorem dX6_hill_50 : decode cX6_hill 50 = .ok (.if_icmp .ne 10, 3) := by decide +kernel
theorem dX6_hill_53 : decode cX6_hill 53 = .ok (.aload_n 0, 1) := by decide +kernel
theorem dX6_hill_54 : decode cX6_hill 54 = .ok (.iconst 0, 1) := by decide +kernel
theorem dX6_hill_55 : decode cX6_hill 55 = .ok (.putfield 149, 3) := by decide +kernel
theorem dX6_hill_58 : decode cX6_hill 58 = .ok (.iload_n 1, 1) := by decide +kernel
theorem dX6_hill_59 : decode cX6_hill 59 = .ok (.ireturn, 1) := by decide +kernel
theorem dX6_hill_60 : decode cX6_hill 60 = .ok (.aload_n 0, 1) := by decide +kernel
theorem dX6_hill_61 : decode cX6_hill 61 = .ok (.getfield 158, 3) := by decide +kernel
theorem dX6_hill_64 : decode cX6_hill 64 = .ok (.bipush 59, 2) := by decide +kernel
theorem dX6_hill_66 : decode cX6_hill 66 = .ok (.if_icmp .ne 7, 3) := by decide +kernel
theorem dX6_hill_69 : decode cX6_hill 69 = .ok (.iconst 1, 1) := by decide +kernel
theorem dX6_hill_70 : decode cX6_hill 70 = .ok (.goto 4, 3) := by decide +kernel
theorem dX6_hill_73 : decode cX6_hill 73 = .ok (.iconst 0, 1) := by decide +kernel
theorem dX6_hill_74 : decode cX6_hill 74 = .ok (.istore_n 2, 1) := by decide +kernel
theorem dX6_hill_75 : decode cX6_hill 75 = .ok (.goto (-58), 3) := by decide +kernel
theorem dX6_hill_78 : decode cX6_hill 78 = .ok (.aload_n 0, 1) := by decide +kernel
theorem dX6_hill_79 : decode cX6_hill 79 = .ok (.aload_n 0, 1) := by decide +kernel
theorem dX6_hill_80 : decode cX6_hill 80 = .ok (.getfield 42, 3) := by decide +kernel
theorem dX6_hill_83 : decode cX6_hill 83 = .ok (.invokevirtual 212, 3) := by decide +kernel
theorem dX6_hill_86 : decode cX6_hill 86 = .ok (.aload_n 0, 1) := by decide +kernel
theorem dX6_hill_87 : decode cX6_hill 87 = .ok (.iconst 0, 1) := by decide +kernel
theorem dX6_hill_88 : decode cX6_hill 88 = .ok (.putfield 149, 3) := by decide +kernel
theorem dX6_hill_91 : decode cX6_hill 91 = .ok (.aload_n 0, 1) := by decide +kernel
theorem dX6_hill_92 : decode cX6_hill 92 = .ok (.bipush (-2), 2) := by decide +kernel
theorem dX6_hill_94 : decode cX6_hill 94 = .ok (.invokevirtual 83, 3) := by decide +kernel
theorem dX6_hill_97 : decode cX6_hill 97 = .ok (.pop, 1) := by decide +kernel
theorem dX6_hill_98 : decode cX6_hill 98 = .ok (.bipush (-20), 2) := by decide +kernel
theorem dX6_hill_100 : decode cX6_hill 100 = .ok (.aload_n 0, 1) := by decide +kernel
theorem dX6_hill_101 : decode cX6_hill 101 = .ok (.getfield 155, 3) := by decide +kernel
theorem dX6_hill_104 : decode cX6_hill 104 = .ok (.isub, 1) := by decide +kernel
theorem dX6_hill_105 : decode cX6_hill 105 = .ok (.ireturn, 1) := by decide +kernel
theorem dX6_eweOf_0 : decode cX6_eweOf 0 = .ok (.aload_n 0, 1) := by decide +kernel
theorem dX6_eweOf_1 : decode cX6_eweOf 1 = .ok (.iload_n 1, 1) := by decide +kernel
theorem dX6_eweOf_2 : decode cX6_eweOf 2 = .ok (.invokevirtual 97, 3) := by decide +kernel
theorem dX6_eweOf_5 : decode cX6_eweOf 5 = .ok (.ifCond .ne 10, 3) := by decide +kernel
theorem dX6_eweOf_8 : decode cX6_eweOf 8 = .ok (.aload_n 0, 1) := by decide +kernel
theorem dX6_eweOf_9 : decode cX6_eweOf 9 = .ok (.bipush (-2), 2) := by decide +kernel
theorem dX6_eweOf_11 : decode cX6_eweOf 11 = .ok (.invokevirtual 83, 3) := by decide +kernel
theorem dX6_eweOf_14 : decode cX6_eweOf 14 = .ok (.ireturn, 1) := by decide +kernel
theorem dX6_eweOf_15 : decode cX6_eweOf 15 = .ok (.iload_n 2, 1) := by decide +kernel
theorem dX6_eweOf_16 : decode cX6_eweOf 16 = .ok (.tableswitch 103 0 5 #[40, 47, 54, 61, 75, 89], 40) := by decide +kernel
theorem dX6_eweOf_56 : decode cX6_eweOf 56 = .ok (.aload_n 0, 1) := by decide +kernel
theorem dX6_eweOf_57 : decode cX6_eweOf 57 = .ok (.getfield 13, 3) := by decide +kernel
theorem dX6_eweOf_60 : decode cX6_eweOf 60 = .ok (.iload_n 1, 1) := by decide +kernel
theorem dX6_eweOf_61 : decode cX6_eweOf 61 = .ok (.iaload, 1) := by decide +kernel
theorem dX6_eweOf_62 : decode cX6_eweOf 62 = .ok (.ireturn, 1) := by decide +kernel
theorem dX6_eweOf_63 : decode cX6_eweOf 63 = .ok (.aload_n 0, 1) := by decide +kernel
theorem dX6_eweOf_64 : decode cX6_eweOf 64 = .ok (.getfield 17, 3) := by decide +kernel
theorem dX6_eweOf_67 : decode cX6_eweOf 67 = .ok (.iload_n 1, 1) := by decide +kernel
theorem dX6_eweOf_68 : decode cX6_eweOf 68 = .ok (.iaload, 1) := by decide +kernel
theorem dX6_eweOf_69 : decode cX6_eweOf 69 = .ok (.ireturn, 1) := by decide +kernel
theorem dX6_eweOf_70 : decode cX6_eweOf 70 = .ok (.aload_n 0, 1) := by decide +kernel
theorem dX6_eweOf_71 : decode cX6_eweOf 71 = .ok (.getfield 20, 3) := by decide +kernel
theorem dX6_eweOf_74 : decode cX6_eweOf 74 = .ok (.iload_n 1, 1) := by decide +kernel
theorem dX6_eweOf_75 : decode cX6_eweOf 75 = .ok (.iaload, 1) := by decide +kernel
theorem dX6_eweOf_76 : decode cX6_eweOf 76 = .ok (.ireturn, 1) := by decide +kernel
theorem dX6_eweOf_77 : decode cX6_eweOf 77 = .ok (.aload_n 0, 1) := by decide +kernel
theorem dX6_eweOf_78 : decode cX6_eweOf 78 = .ok (.iload_n 1, 1) := by decide +kernel
theorem dX6_eweOf_79 : decode cX6_eweOf 79 = .ok (.invokevirtual 122, 3) := by decide +kernel
theorem dX6_eweOf_82 : decode cX6_eweOf 82 = .ok (.ifCond .eq 7, 3) := by decide +kernel
theorem dX6_eweOf_85 : decode cX6_eweOf 85 = .ok (.iconst 1, 1) := by decide +kernel
theorem dX6_eweOf_86 : decode cX6_eweOf 86 = .ok (.goto 4, 3) := by decide +kernel
theorem dX6_eweOf_89 : decode cX6_eweOf 89 = .ok (.iconst 0, 1) := by decide +kernel
theorem dX6_eweOf_90 : decode cX6_eweOf 90 = .ok (.ireturn, 1) := by decide +kernel
theorem dX6_eweOf_91 : decode cX6_eweOf 91 = .ok (.aload_n 0, 1) := by decide +kernel
theorem dX6_eweOf_92 : decode cX6_eweOf 92 = .ok (.getfield 20, 3) := by decide +kernel
theorem dX6_eweOf_95 : decode cX6_eweOf 95 = .ok (.iload_n 1, 1) := by decide +kernel
theorem dX6_eweOf_96 : decode cX6_eweOf 96 = .ok (.iaload, 1) := by decide +kernel
theorem dX6_eweOf_97 : decode cX6_eweOf 97 = .ok (.aload_n 0, 1) := by decide +kernel
theorem dX6_eweOf_98 : decode cX6_eweOf 98 = .ok (.getfield 61, 3) := by decide +kernel
theorem dX6_eweOf_101 : decode cX6_eweOf 101 = .ok (.invokestatic 215, 3) := by decide +kernel
theorem dX6_eweOf_104 : decode cX6_eweOf 104 = .ok (.ireturn, 1) := by decide +kernel
theorem dX6_eweOf_105 : decode cX6_eweOf 105 = .ok (.aload_n 0, 1) := by decide +kernel
theorem dX6_eweOf_106 : decode cX6_eweOf 106 = .ok (.getfield 20, 3) := by decide +kernel
theorem dX6_eweOf_109 : decode cX6_eweOf 109 = .ok (.iload_n 1, 1) := by decide +kernel
theorem dX6_eweOf_110 : decode cX6_eweOf 110 = .ok (.iaload, 1) := by decide +kernel
theorem dX6_eweOf_111 : decode cX6_eweOf 111 = .ok (.aload_n 0, 1) := by decide +kernel
theorem dX6_eweOf_112 : decode cX6_eweOf 112 = .ok (.getfield 119, 3) := by decide +kernel
theorem dX6_eweOf_115 : decode cX6_eweOf 115 = .ok (.invokestatic 215, 3) := by decide +kernel
theorem dX6_eweOf_118 : decode cX6_eweOf 118 = .ok (.ireturn, 1) := by decide +kernel
theorem dX6_eweOf_119 : decode cX6_eweOf 119 = .ok (.aload_n 0, 1) := by decide +kernel
theorem dX6_eweOf_120 : decode cX6_eweOf 120 = .ok (.bipush (-2), 2) := by decide +kernel
theorem dX6_eweOf_122 : decode cX6_eweOf 122 = .ok (.invokevirtual 83, 3) := by decide +kernel
theorem dX6_eweOf_125 : decode cX6_eweOf 125 = .ok (.ireturn, 1) := by decide +kernel
theorem dX6_hasWall_0 : decode cX6_hasWall 0 = .ok (.aload_n 0, 1) := by decide +kernel
theorem dX6_hasWall_1 : decode cX6_hasWall 1 = .ok (.iload_n 1, 1) := by decide +kernel
theorem dX6_hasWall_2 : decode cX6_hasWall 2 = .ok (.i2l, 1) := by decide +kernel
theorem dX6_hasWall_3 : decode cX6_hasWall 3 = .ok (.invokevirtual 128, 3) := by decide +kernel
theorem dX6_hasWall_6 : decode cX6_hasWall 6 = .ok (.ifCond .eq 20, 3) := by decide +kernel
theorem dX6_hasWall_9 : decode cX6_hasWall 9 = .ok (.aload_n 0, 1) := by decide +kernel
theorem dX6_hasWall_10 : decode cX6_hasWall 10 = .ok (.getfield 7, 3) := by decide +kernel
theorem dX6_hasWall_13 : decode cX6_hasWall 13 = .ok (.iload_n 1, 1) := by decide +kernel
theorem dX6_hasWall_14 : decode cX6_hasWall 14 = .ok (.baload, 1) := by decide +kernel
theorem dX6_hasWall_15 : decode cX6_hasWall 15 = .ok (.ifCond .eq 7, 3) := by decide +kernel
theorem dX6_hasWall_18 : decode cX6_hasWall 18 = .ok (.iconst 1, 1) := by decide +kernel
theorem dX6_hasWall_19 : decode cX6_hasWall 19 = .ok (.goto 13, 3) := by decide +kernel
theorem dX6_hasWall_22 : decode cX6_hasWall 22 = .ok (.iconst 0, 1) := by decide +kernel
theorem dX6_hasWall_23 : decode cX6_hasWall 23 = .ok (.goto 9, 3) := by decide +kernel
theorem dX6_hasWall_26 : decode cX6_hasWall 26 = .ok (.aload_n 0, 1) := by decide +kernel
theorem dX6_hasWall_27 : decode cX6_hasWall 27 = .ok (.bipush (-2), 2) := by decide +kernel
theorem dX6_hasWall_29 : decode cX6_hasWall 29 = .ok (.invokevirtual 83, 3) := by decide +kernel
theorem dX6_hasWall_32 : decode cX6_hasWall 32 = .ok (.ireturn, 1) := by decide +kernel
theorem dX6_flees_0 : decode cX6_flees 0 = .ok (.iconst (-1), 1) := by decide +kernel
theorem dX6_flees_1 : decode cX6_flees 1 = .ok (.istore_n 3, 1) := by decide +kernel
theorem dX6_flees_2 : decode cX6_flees 2 = .ok (.iconst 1, 1) := by decide +kernel
theorem dX6_flees_3 : decode cX6_flees 3 = .ok (.istore 4, 2) := by decide +kernel
theorem dX6_flees_5 : decode cX6_flees 5 = .ok (.iload 4, 2) := by decide +kernel
theorem dX6_flees_7 : decode cX6_flees 7 = .ok (.iconst 5, 1) := by decide +kernel
theorem dX6_flees_8 : decode cX6_flees 8 = .ok (.if_icmp .ge 84, 3) := by decide +kernel
theorem dX6_flees_11 : decode cX6_flees 11 = .ok (.aload_n 0, 1) := by decide +kernel
theorem dX6_flees_12 : decode cX6_flees 12 = .ok (.aload_n 0, 1) := by decide +kernel
theorem dX6_flees_13 : decode cX6_flees 13 = .ok (.getfield 20, 3) := by decide +kernel
theorem dX6_flees_16 : decode cX6_flees 16 = .ok (.iload_n 1, 1) := by decide +kernel
theorem dX6_flees_17 : decode cX6_flees 17 = .ok (.iaload, 1) := by decide +kernel
theorem dX6_flees_18 : decode cX6_flees 18 = .ok (.iload 4, 2) := by decide +kernel
theorem dX6_flees_20 : decode cX6_flees 20 = .ok (.invokevirtual 218, 3) := by decide +kernel
theorem dX6_flees_23 : decode cX6_flees 23 = .ok (.istore 5, 2) := by decide +kernel
theorem dX6_flees_25 : decode cX6_flees 25 = .ok (.iload 5, 2) := by decide +kernel
theorem dX6_flees_27 : decode cX6_flees 27 = .ok (.iconst (-1), 1) := by decide +kernel
theorem dX6_flees_28 : decode cX6_flees 28 = .ok (.if_icmp .eq 58, 3) := by decide +kernel
theorem dX6_flees_31 : decode cX6_flees 31 = .ok (.iload 5, 2) := by decide +kernel
theorem dX6_flees_33 : decode cX6_flees 33 = .ok (.aload_n 0, 1) := by decide +kernel
theorem dX6_flees_34 : decode cX6_flees 34 = .ok (.getfield 61, 3) := by decide +kernel
theorem dX6_flees_37 : decode cX6_flees 37 = .ok (.invokestatic 215, 3) := by decide +kernel
theorem dX6_flees_40 : decode cX6_flees 40 = .ok (.aload_n 0, 1) := by decide +kernel
theorem dX6_flees_41 : decode cX6_flees 41 = .ok (.getfield 20, 3) := by decide +kernel
theorem dX6_flees_44 : decode cX6_flees 44 = .ok (.iload_n 1, 1) := by decide +kernel
theorem dX6_flees_45 : decode cX6_flees 45 = .ok (.iaload, 1) := by decide +kernel
theorem dX6_flees_46 : decode cX6_flees 46 = .ok (.aload_n 0, 1) := by decide +kernel
theorem dX6_flees_47 : decode cX6_flees 47 = .ok (.getfield 61, 3) := by decide +kernel
theorem dX6_flees_50 : decode cX6_flees 50 = .ok (.invokestatic 215, 3) := by decide +kernel
theorem dX6_flees_53 : decode cX6_flees 53 = .ok (.if_icmp .gt 6, 3) := by decide +kernel
theorem dX6_flees_56 : decode cX6_flees 56 = .ok (.goto 30, 3) := by decide +kernel
theorem dX6_flees_59 : decode cX6_flees 59 = .ok (.iload_n 3, 1) := by decide +kernel
theorem dX6_flees_60 : decode cX6_flees 60 = .ok (.iconst (-1), 1) := by decide +kernel
theorem dX6_flees_61 : decode cX6_flees 61 = .ok (.if_icmp .eq 22, 3) := by decide +kernel
theorem dX6_flees_64 : decode cX6_flees 64 = .ok (.iload_n 2, 1) := by decide +kernel
theorem dX6_flees_65 : decode cX6_flees 65 = .ok (.iconst (-1), 1) := by decide +kernel
theorem dX6_flees_66 : decode cX6_flees 66 = .ok (.if_icmp .eq 20, 3) := by decide +kernel
theorem dX6_flees_69 : decode cX6_flees 69 = .ok (.iload 5, 2) := by decide +kernel
theorem dX6_flees_71 : decode cX6_flees 71 = .ok (.iload_n 2, 1) := by decide +kernel
theorem dX6_flees_72 : decode cX6_flees 72 = .ok (.invokestatic 215, 3) := by decide +kernel
theorem dX6_flees_75 : decode cX6_flees 75 = .ok (.iload_n 3, 1) := by decide +kernel
theorem dX6_flees_76 : decode cX6_flees 76 = .ok (.iload_n 2, 1) := by decide +kernel
theorem dX6_flees_77 : decode cX6_flees 77 = .ok (.invokestatic 215, 3) := by decide +kernel
theorem dX6_flees_80 : decode cX6_flees 80 = .ok (.if_icmp .ge 6, 3) := by decide +kernel
theorem dX6_flees_83 : decode cX6_flees 83 = .ok (.iload 5, 2) := by decide +kernel
theorem dX6_flees_85 : decode cX6_flees 85 = .ok (.istore_n 3, 1) := by decide +kernel
theorem dX6_flees_86 : decode cX6_flees 86 = .ok (.iinc 4 1, 3) := by decide +kernel
theorem dX6_flees_89 : decode cX6_flees 89 = .ok (.goto (-84), 3) := by decide +kernel
theorem dX6_flees_92 : decode cX6_flees 92 = .ok (.iload_n 3, 1) := by decide +kernel
theorem dX6_flees_93 : decode cX6_flees 93 = .ok (.iconst (-1), 1) := by decide +kernel
theorem dX6_flees_94 : decode cX6_flees 94 = .ok (.if_icmp .eq 10, 3) := by decide +kernel
theorem dX6_flees_97 : decode cX6_flees 97 = .ok (.aload_n 0, 1) := by decide +kernel
theorem dX6_flees_98 : decode cX6_flees 98 = .ok (.getfield 20, 3) := by decide +kernel
theorem dX6_flees_101 : decode cX6_flees 101 = .ok (.iload_n 1, 1) := by decide +kernel
theorem dX6_flees_102 : decode cX6_flees 102 = .ok (.iload_n 3, 1) := by decide +kernel
theorem dX6_flees_103 : decode cX6_flees 103 = .ok (.iastore, 1) := by decide +kernel
theorem dX6_flees_104 : decode cX6_flees 104 = .ok (.return_, 1) := by decide +kernel
theorem dX6_leaderOf_0 : decode cX6_leaderOf 0 = .ok (.iconst 0, 1) := by decide +kernel
theorem dX6_leaderOf_1 : decode cX6_leaderOf 1 = .ok (.istore_n 2, 1) := by decide +kernel
theorem dX6_leaderOf_2 : decode cX6_leaderOf 2 = .ok (.iload_n 2, 1) := by decide +kernel
theorem dX6_leaderOf_3 : decode cX6_leaderOf 3 = .ok (.aload_n 0, 1) := by decide +kernel
theorem dX6_leaderOf_4 : decode cX6_leaderOf 4 = .ok (.getfield 72, 3) := by decide +kernel
theorem dX6_leaderOf_7 : decode cX6_leaderOf 7 = .ok (.if_icmp .ge 39, 3) := by decide +kernel
theorem dX6_leaderOf_10 : decode cX6_leaderOf 10 = .ok (.iload_n 2, 1) := by decide +kernel
theorem dX6_leaderOf_11 : decode cX6_leaderOf 11 = .ok (.iload_n 1, 1) := by decide +kernel
theorem dX6_leaderOf_12 : decode cX6_leaderOf 12 = .ok (.if_icmp .eq 28, 3) := by decide +kernel
theorem dX6_leaderOf_15 : decode cX6_leaderOf 15 = .ok (.aload_n 0, 1) := by decide +kernel
theorem dX6_leaderOf_16 : decode cX6_leaderOf 16 = .ok (.getfield 13, 3) := by decide +kernel
theorem dX6_leaderOf_19 : decode cX6_leaderOf 19 = .ok (.iload_n 2, 1) := by decide +kernel
theorem dX6_leaderOf_20 : decode cX6_leaderOf 20 = .ok (.iaload, 1) := by decide +kernel
theorem dX6_leaderOf_21 : decode cX6_leaderOf 21 = .ok (.iconst 5, 1) := by decide +kernel
theorem dX6_leaderOf_22 : decode cX6_leaderOf 22 = .ok (.if_icmp .ne 18, 3) := by decide +kernel
theorem dX6_leaderOf_25 : decode cX6_leaderOf 25 = .ok (.aload_n 0, 1) := by decide +kernel
theorem dX6_leaderOf_26 : decode cX6_leaderOf 26 = .ok (.iload_n 2, 1) := by decide +kernel
theorem dX6_leaderOf_27 : decode cX6_leaderOf 27 = .ok (.invokevirtual 122, 3) := by decide +kernel
theorem dX6_leaderOf_30 : decode cX6_leaderOf 30 = .ok (.ifCond .ne 10, 3) := by decide +kernel
theorem dX6_leaderOf_33 : decode cX6_leaderOf 33 = .ok (.aload_n 0, 1) := by decide +kernel
theorem dX6_leaderOf_34 : decode cX6_leaderOf 34 = .ok (.getfield 20, 3) := by decide +kernel
theorem dX6_leaderOf_37 : decode cX6_leaderOf 37 = .ok (.iload_n 2, 1) := by decide +kernel
theorem dX6_leaderOf_38 : decode cX6_leaderOf 38 = .ok (.iaload, 1) := by decide +kernel
theorem dX6_leaderOf_39 : decode cX6_leaderOf 39 = .ok (.ireturn, 1) := by decide +kernel
theorem dX6_leaderOf_40 : decode cX6_leaderOf 40 = .ok (.iinc 2 1, 3) := by decide +kernel
theorem dX6_leaderOf_43 : decode cX6_leaderOf 43 = .ok (.goto (-41), 3) := by decide +kernel
theorem dX6_leaderOf_46 : decode cX6_leaderOf 46 = .ok (.iconst (-1), 1) := by decide +kernel
theorem dX6_leaderOf_47 : decode cX6_leaderOf 47 = .ok (.ireturn, 1) := by decide +kernel
theorem dX6_runs_0 : decode cX6_runs 0 = .ok (.iconst 0, 1) := by decide +kernel
theorem dX6_runs_1 : decode cX6_runs 1 = .ok (.istore 4, 2) := by decide +kernel
theorem dX6_runs_3 : decode cX6_runs 3 = .ok (.iload 4, 2) := by decide +kernel
theorem dX6_runs_5 : decode cX6_runs 5 = .ok (.iload_n 2, 1) := by decide +kernel
theorem dX6_runs_6 : decode cX6_runs 6 = .ok (.if_icmp .ge 44, 3) := by decide +kernel
theorem dX6_runs_9 : decode cX6_runs 9 = .ok (.aload_n 0, 1) := by decide +kernel
theorem dX6_runs_10 : decode cX6_runs 10 = .ok (.iload_n 1, 1) := by decide +kernel
theorem dX6_runs_11 : decode cX6_runs 11 = .ok (.invokevirtual 122, 3) := by decide +kernel
theorem dX6_runs_14 : decode cX6_runs 14 = .ok (.ifCond .ne 30, 3) := by decide +kernel
theorem dX6_runs_17 : decode cX6_runs 17 = .ok (.aload_n 0, 1) := by decide +kernel
theorem dX6_runs_18 : decode cX6_runs 18 = .ok (.getfield 20, 3) := by decide +kernel
theorem dX6_runs_21 : decode cX6_runs 21 = .ok (.iload_n 1, 1) := by decide +kernel
theorem dX6_runs_22 : decode cX6_runs 22 = .ok (.iaload, 1) := by decide +kernel
theorem dX6_runs_23 : decode cX6_runs 23 = .ok (.aload_n 0, 1) := by decide +kernel
theorem dX6_runs_24 : decode cX6_runs 24 = .ok (.getfield 61, 3) := by decide +kernel
theorem dX6_runs_27 : decode cX6_runs 27 = .ok (.invokestatic 215, 3) := by decide +kernel
theorem dX6_runs_30 : decode cX6_runs 30 = .ok (.iload_n 3, 1) := by decide +kernel
theorem dX6_runs_31 : decode cX6_runs 31 = .ok (.if_icmp .gt 13, 3) := by decide +kernel
theorem dX6_runs_34 : decode cX6_runs 34 = .ok (.aload_n 0, 1) := by decide +kernel
theorem dX6_runs_35 : decode cX6_runs 35 = .ok (.iload_n 1, 1) := by decide +kernel
theorem dX6_runs_36 : decode cX6_runs 36 = .ok (.aload_n 0, 1) := by decide +kernel
theorem dX6_runs_37 : decode cX6_runs 37 = .ok (.iload_n 1, 1) := by decide +kernel
theorem dX6_runs_38 : decode cX6_runs 38 = .ok (.invokevirtual 221, 3) := by decide +kernel
theorem dX6_runs_41 : decode cX6_runs 41 = .ok (.invokevirtual 224, 3) := by decide +kernel
theorem dX6_runs_44 : decode cX6_runs 44 = .ok (.iinc 4 1, 3) := by decide +kernel
theorem dX6_runs_47 : decode cX6_runs 47 = .ok (.goto (-44), 3) := by decide +kernel
theorem dX6_runs_50 : decode cX6_runs 50 = .ok (.return_, 1) := by decide +kernel
theorem dX6_eweGoes_0 : decode cX6_eweGoes 0 = .ok (.aload_n 0, 1) := by decide +kernel
theorem dX6_eweGoes_1 : decode cX6_eweGoes 1 = .ok (.iload_n 1, 1) := by decide +kernel
theorem dX6_eweGoes_2 : decode cX6_eweGoes 2 = .ok (.invokevirtual 122, 3) := by decide +kernel
theorem dX6_eweGoes_5 : decode cX6_eweGoes 5 = .ok (.ifCond .eq 4, 3) := by decide +kernel
theorem dX6_eweGoes_8 : decode cX6_eweGoes 8 = .ok (.return_, 1) := by decide +kernel
theorem dX6_eweGoes_9 : decode cX6_eweGoes 9 = .ok (.aload_n 0, 1) := by decide +kernel
theorem dX6_eweGoes_10 : decode cX6_eweGoes 10 = .ok (.getfield 20, 3) := by decide +kernel
theorem dX6_eweGoes_13 : decode cX6_eweGoes 13 = .ok (.iload_n 1, 1) := by decide +kernel
theorem dX6_eweGoes_14 : decode cX6_eweGoes 14 = .ok (.iaload, 1) := by decide +kernel
theorem dX6_eweGoes_15 : decode cX6_eweGoes 15 = .ok (.aload_n 0, 1) := by decide +kernel
theorem dX6_eweGoes_16 : decode cX6_eweGoes 16 = .ok (.getfield 61, 3) := by decide +kernel
theorem dX6_eweGoes_19 : decode cX6_eweGoes 19 = .ok (.invokestatic 215, 3) := by decide +kernel
theorem dX6_eweGoes_22 : decode cX6_eweGoes 22 = .ok (.istore_n 2, 1) := by decide +kernel
theorem dX6_eweGoes_23 : decode cX6_eweGoes 23 = .ok (.aload_n 0, 1) := by decide +kernel
theorem dX6_eweGoes_24 : decode cX6_eweGoes 24 = .ok (.getfield 13, 3) := by decide +kernel
theorem dX6_eweGoes_27 : decode cX6_eweGoes 27 = .ok (.iload_n 1, 1) := by decide +kernel
theorem dX6_eweGoes_28 : decode cX6_eweGoes 28 = .ok (.iaload, 1) := by decide +kernel
theorem dX6_eweGoes_29 : decode cX6_eweGoes 29 = .ok (.tableswitch 97 1 5 #[35, 43, 56, 64, 77], 35) := by decide +kernel
theorem dX6_eweGoes_64 : decode cX6_eweGoes 64 = .ok (.aload_n 0, 1) := by decide +kernel
theorem dX6_eweGoes_65 : decode cX6_eweGoes 65 = .ok (.iload_n 1, 1) := by decide +kernel
theorem dX6_eweGoes_66 : decode cX6_eweGoes 66 = .ok (.iconst 2, 1) := by decide +kernel
theorem dX6_eweGoes_67 : decode cX6_eweGoes 67 = .ok (.iconst 3, 1) := by decide +kernel
theorem dX6_eweGoes_68 : decode cX6_eweGoes 68 = .ok (.invokevirtual 228, 3) := by decide +kernel
theorem dX6_eweGoes_71 : decode cX6_eweGoes 71 = .ok (.return_, 1) := by decide +kernel
theorem dX6_eweGoes_72 : decode cX6_eweGoes 72 = .ok (.iload_n 2, 1) := by decide +kernel
theorem dX6_eweGoes_73 : decode cX6_eweGoes 73 = .ok (.iconst 1, 1) := by decide +kernel
theorem dX6_eweGoes_74 : decode cX6_eweGoes 74 = .ok (.if_icmp .le 10, 3) := by decide +kernel
theorem dX6_eweGoes_77 : decode cX6_eweGoes 77 = .ok (.aload_n 0, 1) := by decide +kernel
theorem dX6_eweGoes_78 : decode cX6_eweGoes 78 = .ok (.iload_n 1, 1) := by decide +kernel
theorem dX6_eweGoes_79 : decode cX6_eweGoes 79 = .ok (.iconst 1, 1) := by decide +kernel
theorem dX6_eweGoes_80 : decode cX6_eweGoes 80 = .ok (.iconst 3, 1) := by decide +kernel
theorem dX6_eweGoes_81 : decode cX6_eweGoes 81 = .ok (.invokevirtual 228, 3) := by decide +kernel
theorem dX6_eweGoes_84 : decode cX6_eweGoes 84 = .ok (.return_, 1) := by decide +kernel
theorem dX6_eweGoes_85 : decode cX6_eweGoes 85 = .ok (.aload_n 0, 1) := by decide +kernel
theorem dX6_eweGoes_86 : decode cX6_eweGoes 86 = .ok (.iload_n 1, 1) := by decide +kernel
theorem dX6_eweGoes_87 : decode cX6_eweGoes 87 = .ok (.iconst 3, 1) := by decide +kernel
theorem dX6_eweGoes_88 : decode cX6_eweGoes 88 = .ok (.iconst 5, 1) := by decide +kernel
theorem dX6_eweGoes_89 : decode cX6_eweGoes 89 = .ok (.invokevirtual 228, 3) := by decide +kernel
theorem dX6_eweGoes_92 : decode cX6_eweGoes 92 = .ok (.return_, 1) := by decide +kernel
theorem dX6_eweGoes_93 : decode cX6_eweGoes 93 = .ok (.iload_n 2, 1) := by decide +kernel
theorem dX6_eweGoes_94 : decode cX6_eweGoes 94 = .ok (.iconst 2, 1) := by decide +kernel
theorem dX6_eweGoes_95 : decode cX6_eweGoes 95 = .ok (.if_icmp .le 10, 3) := by decide +kernel
theorem dX6_eweGoes_98 : decode cX6_eweGoes 98 = .ok (.aload_n 0, 1) := by decide +kernel
theorem dX6_eweGoes_99 : decode cX6_eweGoes 99 = .ok (.iload_n 1, 1) := by decide +kernel
theorem dX6_eweGoes_100 : decode cX6_eweGoes 100 = .ok (.iconst 1, 1) := by decide +kernel
theorem dX6_eweGoes_101 : decode cX6_eweGoes 101 = .ok (.iconst 3, 1) := by decide +kernel
theorem dX6_eweGoes_102 : decode cX6_eweGoes 102 = .ok (.invokevirtual 228, 3) := by decide +kernel
theorem dX6_eweGoes_105 : decode cX6_eweGoes 105 = .ok (.return_, 1) := by decide +kernel
theorem dX6_eweGoes_106 : decode cX6_eweGoes 106 = .ok (.iload_n 2, 1) := by decide +kernel
theorem dX6_eweGoes_107 : decode cX6_eweGoes 107 = .ok (.aload_n 0, 1) := by decide +kernel
theorem dX6_eweGoes_108 : decode cX6_eweGoes 108 = .ok (.getfield 17, 3) := by decide +kernel
theorem dX6_eweGoes_111 : decode cX6_eweGoes 111 = .ok (.iload_n 1, 1) := by decide +kernel
theorem dX6_eweGoes_112 : decode cX6_eweGoes 112 = .ok (.iaload, 1) := by decide +kernel
theorem dX6_eweGoes_113 : decode cX6_eweGoes 113 = .ok (.if_icmp .gt 12, 3) := by decide +kernel
theorem dX6_eweGoes_116 : decode cX6_eweGoes 116 = .ok (.aload_n 0, 1) := by decide +kernel
theorem dX6_eweGoes_117 : decode cX6_eweGoes 117 = .ok (.iload_n 1, 1) := by decide +kernel
theorem dX6_eweGoes_118 : decode cX6_eweGoes 118 = .ok (.aload_n 0, 1) := by decide +kernel
theorem dX6_eweGoes_119 : decode cX6_eweGoes 119 = .ok (.getfield 119, 3) := by decide +kernel
theorem dX6_eweGoes_122 : decode cX6_eweGoes 122 = .ok (.invokevirtual 224, 3) := by decide +kernel
theorem dX6_eweGoes_125 : decode cX6_eweGoes 125 = .ok (.return_, 1) := by decide +kernel
theorem dX6_eweGoes_126 : decode cX6_eweGoes 126 = .ok (.aload_n 0, 1) := by decide +kernel
theorem dX6_eweGoes_127 : decode cX6_eweGoes 127 = .ok (.iload_n 1, 1) := by decide +kernel
theorem dX6_eweGoes_128 : decode cX6_eweGoes 128 = .ok (.iconst 1, 1) := by decide +kernel
theorem dX6_eweGoes_129 : decode cX6_eweGoes 129 = .ok (.iconst 3, 1) := by decide +kernel
theorem dX6_eweGoes_130 : decode cX6_eweGoes 130 = .ok (.invokevirtual 228, 3) := by decide +kernel
theorem dX6_eweGoes_133 : decode cX6_eweGoes 133 = .ok (.return_, 1) := by decide +kernel
theorem dX6_can_0 : decode cX6_can 0 = .ok (.iload_n 1, 1) := by decide +kernel
theorem dX6_can_1 : decode cX6_can 1 = .ok (.ifCond .eq 32, 3) := by decide +kernel
theorem dX6_can_4 : decode cX6_can 4 = .ok (.aload_n 0, 1) := by decide +kernel
theorem dX6_can_5 : decode cX6_can 5 = .ok (.aload_n 0, 1) := by decide +kernel
theorem dX6_can_6 : decode cX6_can 6 = .ok (.getfield 61, 3) := by decide +kernel
theorem dX6_can_9 : decode cX6_can 9 = .ok (.iload_n 1, 1) := by decide +kernel
theorem dX6_can_10 : decode cX6_can 10 = .ok (.invokevirtual 218, 3) := by decide +kernel
theorem dX6_can_13 : decode cX6_can 13 = .ok (.iconst (-1), 1) := by decide +kernel
theorem dX6_can_14 : decode cX6_can 14 = .ok (.if_icmp .eq 23, 3) := by decide +kernel
theorem dX6_can_17 : decode cX6_can 17 = .ok (.aload_n 0, 1) := by decide +kernel
theorem dX6_can_18 : decode cX6_can 18 = .ok (.aload_n 0, 1) := by decide +kernel
theorem dX6_can_19 : decode cX6_can 19 = .ok (.getfield 61, 3) := by decide +kernel
theorem dX6_can_22 : decode cX6_can 22 = .ok (.iload_n 1, 1) := by decide +kernel
theorem dX6_can_23 : decode cX6_can 23 = .ok (.invokevirtual 218, 3) := by decide +kernel
theorem dX6_can_26 : decode cX6_can 26 = .ok (.aload_n 0, 1) := by decide +kernel
theorem dX6_can_27 : decode cX6_can 27 = .ok (.getfield 119, 3) := by decide +kernel
theorem dX6_can_30 : decode cX6_can 30 = .ok (.if_icmp .eq 7, 3) := by decide +kernel
theorem dX6_can_33 : decode cX6_can 33 = .ok (.iconst 1, 1) := by decide +kernel
theorem dX6_can_34 : decode cX6_can 34 = .ok (.goto 4, 3) := by decide +kernel
theorem dX6_can_37 : decode cX6_can 37 = .ok (.iconst 0, 1) := by decide +kernel
theorem dX6_can_38 : decode cX6_can 38 = .ok (.ireturn, 1) := by decide +kernel
theorem dX6_goes_0 : decode cX6_goes 0 = .ok (.aload_n 0, 1) := by decide +kernel
theorem dX6_goes_1 : decode cX6_goes 1 = .ok (.iload_n 1, 1) := by decide +kernel
theorem dX6_goes_2 : decode cX6_goes 2 = .ok (.invokevirtual 232, 3) := by decide +kernel
theorem dX6_goes_5 : decode cX6_goes 5 = .ok (.ifCond .eq 16, 3) := by decide +kernel
theorem dX6_goes_8 : decode cX6_goes 8 = .ok (.aload_n 0, 1) := by decide +kernel
theorem dX6_goes_9 : decode cX6_goes 9 = .ok (.aload_n 0, 1) := by decide +kernel
theorem dX6_goes_10 : decode cX6_goes 10 = .ok (.aload_n 0, 1) := by decide +kernel
theorem dX6_goes_11 : decode cX6_goes 11 = .ok (.getfield 61, 3) := by decide +kernel
theorem dX6_goes_14 : decode cX6_goes 14 = .ok (.iload_n 1, 1) := by decide +kernel
theorem dX6_goes_15 : decode cX6_goes 15 = .ok (.invokevirtual 218, 3) := by decide +kernel
theorem dX6_goes_18 : decode cX6_goes 18 = .ok (.putfield 61, 3) := by decide +kernel
theorem dX6_goes_21 : decode cX6_goes 21 = .ok (.aload_n 0, 1) := by decide +kernel
theorem dX6_goes_22 : decode cX6_goes 22 = .ok (.iload_n 1, 1) := by decide +kernel
theorem dX6_goes_23 : decode cX6_goes 23 = .ok (.putfield 235, 3) := by decide +kernel
theorem dX6_goes_26 : decode cX6_goes 26 = .ok (.iconst 0, 1) := by decide +kernel
theorem dX6_goes_27 : decode cX6_goes 27 = .ok (.istore_n 2, 1) := by decide +kernel
theorem dX6_goes_28 : decode cX6_goes 28 = .ok (.iload_n 2, 1) := by decide +kernel
theorem dX6_goes_29 : decode cX6_goes 29 = .ok (.aload_n 0, 1) := by decide +kernel
theorem dX6_goes_30 : decode cX6_goes 30 = .ok (.getfield 72, 3) := by decide +kernel
theorem dX6_goes_33 : decode cX6_goes 33 = .ok (.if_icmp .ge 14, 3) := by decide +kernel
theorem dX6_goes_36 : decode cX6_goes 36 = .ok (.aload_n 0, 1) := by decide +kernel
theorem dX6_goes_37 : decode cX6_goes 37 = .ok (.iload_n 2, 1) := by decide +kernel
theorem dX6_goes_38 : decode cX6_goes 38 = .ok (.invokevirtual 108, 3) := by decide +kernel
theorem dX6_goes_41 : decode cX6_goes 41 = .ok (.iinc 2 1, 3) := by decide +kernel
theorem dX6_goes_44 : decode cX6_goes 44 = .ok (.goto (-16), 3) := by decide +kernel
theorem dX6_goes_47 : decode cX6_goes 47 = .ok (.return_, 1) := by decide +kernel
theorem dX6_saves_0 : decode cX6_saves 0 = .ok (.aload_n 0, 1) := by decide +kernel
theorem dX6_saves_1 : decode cX6_saves 1 = .ok (.getfield 45, 3) := by decide +kernel
theorem dX6_saves_4 : decode cX6_saves 4 = .ok (.bipush 7, 2) := by decide +kernel
theorem dX6_saves_6 : decode cX6_saves 6 = .ok (.iload_n 1, 1) := by decide +kernel
theorem dX6_saves_7 : decode cX6_saves 7 = .ok (.imul, 1) := by decide +kernel
theorem dX6_saves_8 : decode cX6_saves 8 = .ok (.aload_n 0, 1) := by decide +kernel
theorem dX6_saves_9 : decode cX6_saves 9 = .ok (.getfield 61, 3) := by decide +kernel
theorem dX6_saves_12 : decode cX6_saves 12 = .ok (.iastore, 1) := by decide +kernel
theorem dX6_saves_13 : decode cX6_saves 13 = .ok (.aload_n 0, 1) := by decide +kernel
theorem dX6_saves_14 : decode cX6_saves 14 = .ok (.getfield 45, 3) := by decide +kernel
theorem dX6_saves_17 : decode cX6_saves 17 = .ok (.bipush 7, 2) := by decide +kernel
theorem dX6_saves_19 : decode cX6_saves 19 = .ok (.iload_n 1, 1) := by decide +kernel
theorem dX6_saves_20 : decode cX6_saves 20 = .ok (.imul, 1) := by decide +kernel
theorem dX6_saves_21 : decode cX6_saves 21 = .ok (.iconst 1, 1) := by decide +kernel
theorem dX6_saves_22 : decode cX6_saves 22 = .ok (.iadd, 1) := by decide +kernel
theorem dX6_saves_23 : decode cX6_saves 23 = .ok (.aload_n 0, 1) := by decide +kernel
theorem dX6_saves_24 : decode cX6_saves 24 = .ok (.getfield 235, 3) := by decide +kernel
theorem dX6_saves_27 : decode cX6_saves 27 = .ok (.iastore, 1) := by decide +kernel
theorem dX6_saves_28 : decode cX6_saves 28 = .ok (.iconst 0, 1) := by decide +kernel
theorem dX6_saves_29 : decode cX6_saves 29 = .ok (.istore_n 2, 1) := by decide +kernel
theorem dX6_saves_30 : decode cX6_saves 30 = .ok (.iload_n 2, 1) := by decide +kernel
theorem dX6_saves_31 : decode cX6_saves 31 = .ok (.iconst 5, 1) := by decide +kernel
theorem dX6_saves_32 : decode cX6_saves 32 = .ok (.if_icmp .ge 28, 3) := by decide +kernel
theorem dX6_saves_35 : decode cX6_saves 35 = .ok (.aload_n 0, 1) := by decide +kernel
theorem dX6_saves_36 : decode cX6_saves 36 = .ok (.getfield 45, 3) := by decide +kernel
theorem dX6_saves_39 : decode cX6_saves 39 = .ok (.bipush 7, 2) := by decide +kernel
theorem dX6_saves_41 : decode cX6_saves 41 = .ok (.iload_n 1, 1) := by decide +kernel
theorem dX6_saves_42 : decode cX6_saves 42 = .ok (.imul, 1) := by decide +kernel
theorem dX6_saves_43 : decode cX6_saves 43 = .ok (.iconst 2, 1) := by decide +kernel
theorem dX6_saves_44 : decode cX6_saves 44 = .ok (.iadd, 1) := by decide +kernel
theorem dX6_saves_45 : decode cX6_saves 45 = .ok (.iload_n 2, 1) := by decide +kernel
theorem dX6_saves_46 : decode cX6_saves 46 = .ok (.iadd, 1) := by decide +kernel
theorem dX6_saves_47 : decode cX6_saves 47 = .ok (.aload_n 0, 1) := by decide +kernel
theorem dX6_saves_48 : decode cX6_saves 48 = .ok (.getfield 20, 3) := by decide +kernel
theorem dX6_saves_51 : decode cX6_saves 51 = .ok (.iload_n 2, 1) := by decide +kernel
theorem dX6_saves_52 : decode cX6_saves 52 = .ok (.iaload, 1) := by decide +kernel
theorem dX6_saves_53 : decode cX6_saves 53 = .ok (.iastore, 1) := by decide +kernel
theorem dX6_saves_54 : decode cX6_saves 54 = .ok (.iinc 2 1, 3) := by decide +kernel
theorem dX6_saves_57 : decode cX6_saves 57 = .ok (.goto (-27), 3) := by decide +kernel
theorem dX6_saves_60 : decode cX6_saves 60 = .ok (.return_, 1) := by decide +kernel
theorem dX6_again_0 : decode cX6_again 0 = .ok (.aload_n 0, 1) := by decide +kernel
theorem dX6_again_1 : decode cX6_again 1 = .ok (.aload_n 0, 1) := by decide +kernel
theorem dX6_again_2 : decode cX6_again 2 = .ok (.getfield 45, 3) := by decide +kernel
theorem dX6_again_5 : decode cX6_again 5 = .ok (.bipush 7, 2) := by decide +kernel
theorem dX6_again_7 : decode cX6_again 7 = .ok (.iload_n 1, 1) := by decide +kernel
theorem dX6_again_8 : decode cX6_again 8 = .ok (.imul, 1) := by decide +kernel
theorem dX6_again_9 : decode cX6_again 9 = .ok (.iaload, 1) := by decide +kernel
theorem dX6_again_10 : decode cX6_again 10 = .ok (.putfield 61, 3) := by decide +kernel
theorem dX6_again_13 : decode cX6_again 13 = .ok (.aload_n 0, 1) := by decide +kernel
theorem dX6_again_14 : decode cX6_again 14 = .ok (.aload_n 0, 1) := by decide +kernel
theorem dX6_again_15 : decode cX6_again 15 = .ok (.getfield 45, 3) := by decide +kernel
theorem dX6_again_18 : decode cX6_again 18 = .ok (.bipush 7, 2) := by decide +kernel
theorem dX6_again_20 : decode cX6_again 20 = .ok (.iload_n 1, 1) := by decide +kernel
theorem dX6_again_21 : decode cX6_again 21 = .ok (.imul, 1) := by decide +kernel
theorem dX6_again_22 : decode cX6_again 22 = .ok (.iconst 1, 1) := by decide +kernel
theorem dX6_again_23 : decode cX6_again 23 = .ok (.iadd, 1) := by decide +kernel
theorem dX6_again_24 : decode cX6_again 24 = .ok (.iaload, 1) := by decide +kernel
theorem dX6_again_25 : decode cX6_again 25 = .ok (.putfield 235, 3) := by decide +kernel
theorem dX6_again_28 : decode cX6_again 28 = .ok (.iconst 0, 1) := by decide +kernel
theorem dX6_again_29 : decode cX6_again 29 = .ok (.istore_n 2, 1) := by decide +kernel
theorem dX6_again_30 : decode cX6_again 30 = .ok (.iload_n 2, 1) := by decide +kernel
theorem dX6_again_31 : decode cX6_again 31 = .ok (.iconst 5, 1) := by decide +kernel
theorem dX6_again_32 : decode cX6_again 32 = .ok (.if_icmp .ge 28, 3) := by decide +kernel
theorem dX6_again_35 : decode cX6_again 35 = .ok (.aload_n 0, 1) := by decide +kernel
theorem dX6_again_36 : decode cX6_again 36 = .ok (.getfield 20, 3) := by decide +kernel
theorem dX6_again_39 : decode cX6_again 39 = .ok (.iload_n 2, 1) := by decide +kernel
theorem dX6_again_40 : decode cX6_again 40 = .ok (.aload_n 0, 1) := by decide +kernel
theorem dX6_again_41 : decode cX6_again 41 = .ok (.getfield 45, 3) := by decide +kernel
theorem dX6_again_44 : decode cX6_again 44 = .ok (.bipush 7, 2) := by decide +kernel
theorem dX6_again_46 : decode cX6_again 46 = .ok (.iload_n 1, 1) := by decide +kernel
theorem dX6_again_47 : decode cX6_again 47 = .ok (.imul, 1) := by decide +kernel
theorem dX6_again_48 : decode cX6_again 48 = .ok (.iconst 2, 1) := by decide +kernel
theorem dX6_again_49 : decode cX6_again 49 = .ok (.iadd, 1) := by decide +kernel
theorem dX6_again_50 : decode cX6_again 50 = .ok (.iload_n 2, 1) := by decide +kernel
theorem dX6_again_51 : decode cX6_again 51 = .ok (.iadd, 1) := by decide +kernel
theorem dX6_again_52 : decode cX6_again 52 = .ok (.iaload, 1) := by decide +kernel
theorem dX6_again_53 : decode cX6_again 53 = .ok (.iastore, 1) := by decide +kernel
theorem dX6_again_54 : decode cX6_again 54 = .ok (.iinc 2 1, 3) := by decide +kernel
theorem dX6_again_57 : decode cX6_again 57 = .ok (.goto (-27), 3) := by decide +kernel
theorem dX6_again_60 : decode cX6_again 60 = .ok (.return_, 1) := by decide +kernel
theorem dX6_brings_0 : decode cX6_brings 0 = .ok (.iload_n 1, 1) := by decide +kernel
theorem dX6_brings_1 : decode cX6_brings 1 = .ok (.iload_n 2, 1) := by decide +kernel
theorem dX6_brings_2 : decode cX6_brings 2 = .ok (.if_icmp .ne 20, 3) := by decide +kernel
theorem dX6_brings_5 : decode cX6_brings 5 = .ok (.aload_n 0, 1) := by decide +kernel
theorem dX6_brings_6 : decode cX6_brings 6 = .ok (.invokevirtual 135, 3) := by decide +kernel
theorem dX6_brings_9 : decode cX6_brings 9 = .ok (.aload_n 0, 1) := by decide +kernel
theorem dX6_brings_10 : decode cX6_brings 10 = .ok (.getfield 72, 3) := by decide +kernel
theorem dX6_brings_13 : decode cX6_brings 13 = .ok (.if_icmp .ne 7, 3) := by decide +kernel
theorem dX6_brings_16 : decode cX6_brings 16 = .ok (.iconst 1, 1) := by decide +kernel
theorem dX6_brings_17 : decode cX6_brings 17 = .ok (.goto 4, 3) := by decide +kernel
theorem dX6_brings_20 : decode cX6_brings 20 = .ok (.iconst 0, 1) := by decide +kernel
theorem dX6_brings_21 : decode cX6_brings 21 = .ok (.ireturn, 1) := by decide +kernel
theorem dX6_brings_22 : decode cX6_brings 22 = .ok (.aload_n 0, 1) := by decide +kernel
theorem dX6_brings_23 : decode cX6_brings 23 = .ok (.iload_n 1, 1) := by decide +kernel
theorem dX6_brings_24 : decode cX6_brings 24 = .ok (.invokevirtual 104, 3) := by decide +kernel
theorem dX6_brings_27 : decode cX6_brings 27 = .ok (.iconst 0, 1) := by decide +kernel
theorem dX6_brings_28 : decode cX6_brings 28 = .ok (.istore_n 3, 1) := by decide +kernel
theorem dX6_brings_29 : decode cX6_brings 29 = .ok (.iload_n 3, 1) := by decide +kernel
theorem dX6_brings_30 : decode cX6_brings 30 = .ok (.iconst 5, 1) := by decide +kernel
theorem dX6_brings_31 : decode cX6_brings 31 = .ok (.if_icmp .ge 54, 3) := by decide +kernel
theorem dX6_brings_34 : decode cX6_brings 34 = .ok (.aload_n 0, 1) := by decide +kernel
theorem dX6_brings_35 : decode cX6_brings 35 = .ok (.iload_n 3, 1) := by decide +kernel
theorem dX6_brings_36 : decode cX6_brings 36 = .ok (.invokevirtual 232, 3) := by decide +kernel
theorem dX6_brings_39 : decode cX6_brings 39 = .ok (.ifCond .ne 6, 3) := by decide +kernel
theorem dX6_brings_42 : decode cX6_brings 42 = .ok (.goto 37, 3) := by decide +kernel
theorem dX6_brings_45 : decode cX6_brings 45 = .ok (.aload_n 0, 1) := by decide +kernel
theorem dX6_brings_46 : decode cX6_brings 46 = .ok (.getfield 48, 3) := by decide +kernel
theorem dX6_brings_49 : decode cX6_brings 49 = .ok (.iload_n 1, 1) := by decide +kernel
theorem dX6_brings_50 : decode cX6_brings 50 = .ok (.iload_n 3, 1) := by decide +kernel
theorem dX6_brings_51 : decode cX6_brings 51 = .ok (.iastore, 1) := by decide +kernel
theorem dX6_brings_52 : decode cX6_brings 52 = .ok (.aload_n 0, 1) := by decide +kernel
theorem dX6_brings_53 : decode cX6_brings 53 = .ok (.iload_n 3, 1) := by decide +kernel
theorem dX6_brings_54 : decode cX6_brings 54 = .ok (.invokevirtual 238, 3) := by decide +kernel
theorem dX6_brings_57 : decode cX6_brings 57 = .ok (.aload_n 0, 1) := by decide +kernel
theorem dX6_brings_58 : decode cX6_brings 58 = .ok (.iload_n 1, 1) := by decide +kernel
theorem dX6_brings_59 : decode cX6_brings 59 = .ok (.iconst 1, 1) := by decide +kernel
theorem dX6_brings_60 : decode cX6_brings 60 = .ok (.iadd, 1) := by decide +kernel
theorem dX6_brings_61 : decode cX6_brings 61 = .ok (.iload_n 2, 1) := by decide +kernel
theorem dX6_brings_62 : decode cX6_brings 62 = .ok (.invokevirtual 241, 3) := by decide +kernel
theorem dX6_brings_65 : decode cX6_brings 65 = .ok (.istore 4, 2) := by decide +kernel
theorem dX6_brings_67 : decode cX6_brings 67 = .ok (.aload_n 0, 1) := by decide +kernel
theorem dX6_brings_68 : decode cX6_brings 68 = .ok (.iload_n 1, 1) := by decide +kernel
theorem dX6_brings_69 : decode cX6_brings 69 = .ok (.invokevirtual 111, 3) := by decide +kernel
theorem dX6_brings_72 : decode cX6_brings 72 = .ok (.iload 4, 2) := by decide +kernel
theorem dX6_brings_74 : decode cX6_brings 74 = .ok (.ifCond .eq 5, 3) := by decide +kernel
theorem dX6_brings_77 : decode cX6_brings 77 = .ok (.iconst 1, 1) := by decide +kernel
theorem dX6_brings_78 : decode cX6_brings 78 = .ok (.ireturn, 1) := by decide +kernel
theorem dX6_brings_79 : decode cX6_brings 79 = .ok (.iinc 3 1, 3) := by decide +kernel
theorem dX6_brings_82 : decode cX6_brings 82 = .ok (.goto (-53), 3) := by decide +kernel
theorem dX6_brings_85 : decode cX6_brings 85 = .ok (.iconst 0, 1) := by decide +kernel
theorem dX6_brings_86 : decode cX6_brings 86 = .ok (.ireturn, 1) := by decide +kernel
theorem dX6_fewest_0 : decode cX6_fewest 0 = .ok (.iload_n 1, 1) := by decide +kernel
theorem dX6_fewest_1 : decode cX6_fewest 1 = .ok (.iconst 0, 1) := by decide +kernel
theorem dX6_fewest_2 : decode cX6_fewest 2 = .ok (.bipush 6, 2) := by decide +kernel
theorem dX6_fewest_4 : decode cX6_fewest 4 = .ok (.invokestatic 75, 3) := by decide +kernel
theorem dX6_fewest_7 : decode cX6_fewest 7 = .ok (.ifCond .eq 8, 3) := by decide +kernel
theorem dX6_fewest_10 : decode cX6_fewest 10 = .ok (.iload_n 2, 1) := by decide +kernel
theorem dX6_fewest_11 : decode cX6_fewest 11 = .ok (.iconst (-1), 1) := by decide +kernel
theorem dX6_fewest_12 : decode cX6_fewest 12 = .ok (.if_icmp .ge 10, 3) := by decide +kernel
theorem dX6_fewest_15 : decode cX6_fewest 15 = .ok (.aload_n 0, 1) := by decide +kernel
theorem dX6_fewest_16 : decode cX6_fewest 16 = .ok (.bipush (-2), 2) := by decide +kernel
theorem dX6_fewest_18 : decode cX6_fewest 18 = .ok (.invokevirtual 83, 3) := by decide +kernel
theorem dX6_fewest_21 : decode cX6_fewest 21 = .ok (.ireturn, 1) := by decide +kernel
theorem dX6_fewest_22 : decode cX6_fewest 22 = .ok (.iconst 0, 1) := by decide +kernel
theorem dX6_fewest_23 : decode cX6_fewest 23 = .ok (.istore_n 3, 1) := by decide +kernel
theorem dX6_fewest_24 : decode cX6_fewest 24 = .ok (.iload_n 3, 1) := by decide +kernel
theorem dX6_fewest_25 : decode cX6_fewest 25 = .ok (.iload_n 1, 1) := by decide +kernel
theorem dX6_fewest_26 : decode cX6_fewest 26 = .ok (.if_icmp .gt 18, 3) := by decide +kernel
theorem dX6_fewest_29 : decode cX6_fewest 29 = .ok (.aload_n 0, 1) := by decide +kernel
theorem dX6_fewest_30 : decode cX6_fewest 30 = .ok (.iconst 0, 1) := by decide +kernel
theorem dX6_fewest_31 : decode cX6_fewest 31 = .ok (.iload_n 3, 1) := by decide +kernel
theorem dX6_fewest_32 : decode cX6_fewest 32 = .ok (.invokevirtual 241, 3) := by decide +kernel
theorem dX6_fewest_35 : decode cX6_fewest 35 = .ok (.ifCond .ne 9, 3) := by decide +kernel
theorem dX6_fewest_38 : decode cX6_fewest 38 = .ok (.iinc 3 1, 3) := by decide +kernel
theorem dX6_fewest_41 : decode cX6_fewest 41 = .ok (.goto (-17), 3) := by decide +kernel
theorem dX6_fewest_44 : decode cX6_fewest 44 = .ok (.iload_n 2, 1) := by decide +kernel
theorem dX6_fewest_45 : decode cX6_fewest 45 = .ok (.iconst (-1), 1) := by decide +kernel
theorem dX6_fewest_46 : decode cX6_fewest 46 = .ok (.if_icmp .ne 14, 3) := by decide +kernel
theorem dX6_fewest_49 : decode cX6_fewest 49 = .ok (.iload_n 3, 1) := by decide +kernel
theorem dX6_fewest_50 : decode cX6_fewest 50 = .ok (.iload_n 1, 1) := by decide +kernel
theorem dX6_fewest_51 : decode cX6_fewest 51 = .ok (.if_icmp .le 7, 3) := by decide +kernel
theorem dX6_fewest_54 : decode cX6_fewest 54 = .ok (.iconst (-1), 1) := by decide +kernel
theorem dX6_fewest_55 : decode cX6_fewest 55 = .ok (.goto 4, 3) := by decide +kernel
theorem dX6_fewest_58 : decode cX6_fewest 58 = .ok (.iload_n 3, 1) := by decide +kernel
theorem dX6_fewest_59 : decode cX6_fewest 59 = .ok (.ireturn, 1) := by decide +kernel
theorem dX6_fewest_60 : decode cX6_fewest 60 = .ok (.iload_n 3, 1) := by decide +kernel
theorem dX6_fewest_61 : decode cX6_fewest 61 = .ok (.iload_n 1, 1) := by decide +kernel
theorem dX6_fewest_62 : decode cX6_fewest 62 = .ok (.if_icmp .gt 8, 3) := by decide +kernel
theorem dX6_fewest_65 : decode cX6_fewest 65 = .ok (.iload_n 2, 1) := by decide +kernel
theorem dX6_fewest_66 : decode cX6_fewest 66 = .ok (.iload_n 3, 1) := by decide +kernel
theorem dX6_fewest_67 : decode cX6_fewest 67 = .ok (.if_icmp .lt 12, 3) := by decide +kernel
theorem dX6_fewest_70 : decode cX6_fewest 70 = .ok (.aload_n 0, 1) := by decide +kernel
theorem dX6_fewest_71 : decode cX6_fewest 71 = .ok (.bipush (-5), 2) := by decide +kernel
theorem dX6_fewest_73 : decode cX6_fewest 73 = .ok (.invokevirtual 83, 3) := by decide +kernel
theorem dX6_fewest_76 : decode cX6_fewest 76 = .ok (.goto 9, 3) := by decide +kernel
theorem dX6_fewest_79 : decode cX6_fewest 79 = .ok (.aload_n 0, 1) := by decide +kernel
theorem dX6_fewest_80 : decode cX6_fewest 80 = .ok (.getfield 48, 3) := by decide +kernel
theorem dX6_fewest_83 : decode cX6_fewest 83 = .ok (.iload_n 2, 1) := by decide +kernel
theorem dX6_fewest_84 : decode cX6_fewest 84 = .ok (.iaload, 1) := by decide +kernel
theorem dX6_fewest_85 : decode cX6_fewest 85 = .ok (.ireturn, 1) := by decide +kernel
theorem dX6_seeks_0 : decode cX6_seeks 0 = .ok (.iload_n 1, 1) := by decide +kernel
theorem dX6_seeks_1 : decode cX6_seeks 1 = .ok (.iload_n 2, 1) := by decide +kernel
theorem dX6_seeks_2 : decode cX6_seeks 2 = .ok (.if_icmp .ne 49, 3) := by decide +kernel
theorem dX6_seeks_5 : decode cX6_seeks 5 = .ok (.aload_n 0, 1) := by decide +kernel
theorem dX6_seeks_6 : decode cX6_seeks 6 = .ok (.invokevirtual 135, 3) := by decide +kernel
theorem dX6_seeks_9 : decode cX6_seeks 9 = .ok (.aload_n 0, 1) := by decide +kernel
theorem dX6_seeks_10 : decode cX6_seeks 10 = .ok (.getfield 244, 3) := by decide +kernel
theorem dX6_seeks_13 : decode cX6_seeks 13 = .ok (.if_icmp .gt 4, 3) := by decide +kernel
theorem dX6_seeks_16 : decode cX6_seeks 16 = .ok (.return_, 1) := by decide +kernel
theorem dX6_seeks_17 : decode cX6_seeks 17 = .ok (.aload_n 0, 1) := by decide +kernel
theorem dX6_seeks_18 : decode cX6_seeks 18 = .ok (.aload_n 0, 1) := by decide +kernel
theorem dX6_seeks_19 : decode cX6_seeks 19 = .ok (.invokevirtual 135, 3) := by decide +kernel
theorem dX6_seeks_22 : decode cX6_seeks 22 = .ok (.putfield 244, 3) := by decide +kernel
theorem dX6_seeks_25 : decode cX6_seeks 25 = .ok (.iconst 0, 1) := by decide +kernel
theorem dX6_seeks_26 : decode cX6_seeks 26 = .ok (.istore_n 3, 1) := by decide +kernel
theorem dX6_seeks_27 : decode cX6_seeks 27 = .ok (.iload_n 3, 1) := by decide +kernel
theorem dX6_seeks_28 : decode cX6_seeks 28 = .ok (.iload_n 2, 1) := by decide +kernel
theorem dX6_seeks_29 : decode cX6_seeks 29 = .ok (.if_icmp .ge 21, 3) := by decide +kernel
theorem dX6_seeks_32 : decode cX6_seeks 32 = .ok (.aload_n 0, 1) := by decide +kernel
theorem dX6_seeks_33 : decode cX6_seeks 33 = .ok (.getfield 51, 3) := by decide +kernel
theorem dX6_seeks_36 : decode cX6_seeks 36 = .ok (.iload_n 3, 1) := by decide +kernel
theorem dX6_seeks_37 : decode cX6_seeks 37 = .ok (.aload_n 0, 1) := by decide +kernel
theorem dX6_seeks_38 : decode cX6_seeks 38 = .ok (.getfield 48, 3) := by decide +kernel
theorem dX6_seeks_41 : decode cX6_seeks 41 = .ok (.iload_n 3, 1) := by decide +kernel
theorem dX6_seeks_42 : decode cX6_seeks 42 = .ok (.iaload, 1) := by decide +kernel
theorem dX6_seeks_43 : decode cX6_seeks 43 = .ok (.iastore, 1) := by decide +kernel
theorem dX6_seeks_44 : decode cX6_seeks 44 = .ok (.iinc 3 1, 3) := by decide +kernel
theorem dX6_seeks_47 : decode cX6_seeks 47 = .ok (.goto (-20), 3) := by decide +kernel
theorem dX6_seeks_50 : decode cX6_seeks 50 = .ok (.return_, 1) := by decide +kernel
theorem dX6_seeks_51 : decode cX6_seeks 51 = .ok (.aload_n 0, 1) := by decide +kernel
theorem dX6_seeks_52 : decode cX6_seeks 52 = .ok (.iload_n 1, 1) := by decide +kernel
theorem dX6_seeks_53 : decode cX6_seeks 53 = .ok (.invokevirtual 104, 3) := by decide +kernel
theorem dX6_seeks_56 : decode cX6_seeks 56 = .ok (.iconst 0, 1) := by decide +kernel
theorem dX6_seeks_57 : decode cX6_seeks 57 = .ok (.istore_n 3, 1) := by decide +kernel
theorem dX6_seeks_58 : decode cX6_seeks 58 = .ok (.iload_n 3, 1) := by decide +kernel
theorem dX6_seeks_59 : decode cX6_seeks 59 = .ok (.iconst 5, 1) := by decide +kernel
theorem dX6_seeks_60 : decode cX6_seeks 60 = .ok (.if_icmp .ge 45, 3) := by decide +kernel
theorem dX6_seeks_63 : decode cX6_seeks 63 = .ok (.aload_n 0, 1) := by decide +kernel
theorem dX6_seeks_64 : decode cX6_seeks 64 = .ok (.iload_n 3, 1) := by decide +kernel
theorem dX6_seeks_65 : decode cX6_seeks 65 = .ok (.invokevirtual 232, 3) := by decide +kernel
theorem dX6_seeks_68 : decode cX6_seeks 68 = .ok (.ifCond .ne 6, 3) := by decide +kernel
theorem dX6_seeks_71 : decode cX6_seeks 71 = .ok (.goto 28, 3) := by decide +kernel
theorem dX6_seeks_74 : decode cX6_seeks 74 = .ok (.aload_n 0, 1) := by decide +kernel
theorem dX6_seeks_75 : decode cX6_seeks 75 = .ok (.getfield 48, 3) := by decide +kernel
theorem dX6_seeks_78 : decode cX6_seeks 78 = .ok (.iload_n 1, 1) := by decide +kernel
theorem dX6_seeks_79 : decode cX6_seeks 79 = .ok (.iload_n 3, 1) := by decide +kernel
theorem dX6_seeks_80 : decode cX6_seeks 80 = .ok (.iastore, 1) := by decide +kernel
theorem dX6_seeks_81 : decode cX6_seeks 81 = .ok (.aload_n 0, 1) := by decide +kernel
theorem dX6_seeks_82 : decode cX6_seeks 82 = .ok (.iload_n 3, 1) := by decide +kernel
theorem dX6_seeks_83 : decode cX6_seeks 83 = .ok (.invokevirtual 238, 3) := by decide +kernel
theorem dX6_seeks_86 : decode cX6_seeks 86 = .ok (.aload_n 0, 1) := by decide +kernel
theorem dX6_seeks_87 : decode cX6_seeks 87 = .ok (.iload_n 1, 1) := by decide +kernel
theorem dX6_seeks_88 : decode cX6_seeks 88 = .ok (.iconst 1, 1) := by decide +kernel
theorem dX6_seeks_89 : decode cX6_seeks 89 = .ok (.iadd, 1) := by decide +kernel
theorem dX6_seeks_90 : decode cX6_seeks 90 = .ok (.iload_n 2, 1) := by decide +kernel
theorem dX6_seeks_91 : decode cX6_seeks 91 = .ok (.invokevirtual 247, 3) := by decide +kernel
theorem dX6_seeks_94 : decode cX6_seeks 94 = .ok (.aload_n 0, 1) := by decide +kernel
theorem dX6_seeks_95 : decode cX6_seeks 95 = .ok (.iload_n 1, 1) := by decide +kernel
theorem dX6_seeks_96 : decode cX6_seeks 96 = .ok (.invokevirtual 111, 3) := by decide +kernel
theorem dX6_seeks_99 : decode cX6_seeks 99 = .ok (.iinc 3 1, 3) := by decide +kernel
theorem dX6_seeks_102 : decode cX6_seeks 102 = .ok (.goto (-44), 3) := by decide +kernel
theorem dX6_seeks_105 : decode cX6_seeks 105 = .ok (.return_, 1) := by decide +kernel
theorem dX6_most_0 : decode cX6_most 0 = .ok (.iload_n 1, 1) := by decide +kernel
theorem dX6_most_1 : decode cX6_most 1 = .ok (.iconst 0, 1) := by decide +kernel
theorem dX6_most_2 : decode cX6_most 2 = .ok (.iconst 5, 1) := by decide +kernel
theorem dX6_most_3 : decode cX6_most 3 = .ok (.invokestatic 75, 3) := by decide +kernel
theorem dX6_most_6 : decode cX6_most 6 = .ok (.ifCond .eq 14, 3) := by decide +kernel
theorem dX6_most_9 : decode cX6_most 9 = .ok (.iload_n 2, 1) := by decide +kernel
theorem dX6_most_10 : decode cX6_most 10 = .ok (.iconst (-1), 1) := by decide +kernel
theorem dX6_most_11 : decode cX6_most 11 = .ok (.iload_n 1, 1) := by decide +kernel
theorem dX6_most_12 : decode cX6_most 12 = .ok (.iconst 1, 1) := by decide +kernel
theorem dX6_most_13 : decode cX6_most 13 = .ok (.isub, 1) := by decide +kernel
theorem dX6_most_14 : decode cX6_most 14 = .ok (.invokestatic 75, 3) := by decide +kernel
theorem dX6_most_17 : decode cX6_most 17 = .ok (.ifCond .ne 10, 3) := by decide +kernel
theorem dX6_most_20 : decode cX6_most 20 = .ok (.aload_n 0, 1) := by decide +kernel
theorem dX6_most_21 : decode cX6_most 21 = .ok (.bipush (-2), 2) := by decide +kernel
theorem dX6_most_23 : decode cX6_most 23 = .ok (.invokevirtual 83, 3) := by decide +kernel
theorem dX6_most_26 : decode cX6_most 26 = .ok (.ireturn, 1) := by decide +kernel
theorem dX6_most_27 : decode cX6_most 27 = .ok (.aload_n 0, 1) := by decide +kernel
theorem dX6_most_28 : decode cX6_most 28 = .ok (.iconst (-1), 1) := by decide +kernel
theorem dX6_most_29 : decode cX6_most 29 = .ok (.putfield 244, 3) := by decide +kernel
theorem dX6_most_32 : decode cX6_most 32 = .ok (.aload_n 0, 1) := by decide +kernel
theorem dX6_most_33 : decode cX6_most 33 = .ok (.iconst 0, 1) := by decide +kernel
theorem dX6_most_34 : decode cX6_most 34 = .ok (.iload_n 1, 1) := by decide +kernel
theorem dX6_most_35 : decode cX6_most 35 = .ok (.invokevirtual 247, 3) := by decide +kernel
theorem dX6_most_38 : decode cX6_most 38 = .ok (.iload_n 2, 1) := by decide +kernel
theorem dX6_most_39 : decode cX6_most 39 = .ok (.iconst (-1), 1) := by decide +kernel
theorem dX6_most_40 : decode cX6_most 40 = .ok (.if_icmp .ne 10, 3) := by decide +kernel
theorem dX6_most_43 : decode cX6_most 43 = .ok (.aload_n 0, 1) := by decide +kernel
theorem dX6_most_44 : decode cX6_most 44 = .ok (.getfield 244, 3) := by decide +kernel
theorem dX6_most_47 : decode cX6_most 47 = .ok (.goto 9, 3) := by decide +kernel
theorem dX6_most_50 : decode cX6_most 50 = .ok (.aload_n 0, 1) := by decide +kernel
theorem dX6_most_51 : decode cX6_most 51 = .ok (.getfield 51, 3) := by decide +kernel
theorem dX6_most_54 : decode cX6_most 54 = .ok (.iload_n 2, 1) := by decide +kernel
theorem dX6_most_55 : decode cX6_most 55 = .ok (.iaload, 1) := by decide +kernel
theorem dX6_most_56 : decode cX6_most 56 = .ok (.ireturn, 1) := by decide +kernel
theorem dX6_allSteps_0 : decode cX6_allSteps 0 = .ok (.iconst 0, 1) := by decide +kernel
theorem dX6_allSteps_1 : decode cX6_allSteps 1 = .ok (.istore_n 1, 1) := by decide +kernel
theorem dX6_allSteps_2 : decode cX6_allSteps 2 = .ok (.iconst 0, 1) := by decide +kernel
theorem dX6_allSteps_3 : decode cX6_allSteps 3 = .ok (.istore_n 2, 1) := by decide +kernel
theorem dX6_allSteps_4 : decode cX6_allSteps 4 = .ok (.iload_n 2, 1) := by decide +kernel
theorem dX6_allSteps_5 : decode cX6_allSteps 5 = .ok (.aload_n 0, 1) := by decide +kernel
theorem dX6_allSteps_6 : decode cX6_allSteps 6 = .ok (.getfield 72, 3) := by decide +kernel
theorem dX6_allSteps_9 : decode cX6_allSteps 9 = .ok (.if_icmp .ge 25, 3) := by decide +kernel
theorem dX6_allSteps_12 : decode cX6_allSteps 12 = .ok (.iload_n 1, 1) := by decide +kernel
theorem dX6_allSteps_13 : decode cX6_allSteps 13 = .ok (.aload_n 0, 1) := by decide +kernel
theorem dX6_allSteps_14 : decode cX6_allSteps 14 = .ok (.getfield 20, 3) := by decide +kernel
theorem dX6_allSteps_17 : decode cX6_allSteps 17 = .ok (.iload_n 2, 1) := by decide +kernel
theorem dX6_allSteps_18 : decode cX6_allSteps 18 = .ok (.iaload, 1) := by decide +kernel
theorem dX6_allSteps_19 : decode cX6_allSteps 19 = .ok (.aload_n 0, 1) := by decide +kernel
theorem dX6_allSteps_20 : decode cX6_allSteps 20 = .ok (.getfield 119, 3) := by decide +kernel
theorem dX6_allSteps_23 : decode cX6_allSteps 23 = .ok (.invokestatic 215, 3) := by decide +kernel
theorem dX6_allSteps_26 : decode cX6_allSteps 26 = .ok (.iadd, 1) := by decide +kernel
theorem dX6_allSteps_27 : decode cX6_allSteps 27 = .ok (.istore_n 1, 1) := by decide +kernel
theorem dX6_allSteps_28 : decode cX6_allSteps 28 = .ok (.iinc 2 1, 3) := by decide +kernel
theorem dX6_allSteps_31 : decode cX6_allSteps 31 = .ok (.goto (-27), 3) := by decide +kernel
theorem dX6_allSteps_34 : decode cX6_allSteps 34 = .ok (.iload_n 1, 1) := by decide +kernel
theorem dX6_allSteps_35 : decode cX6_allSteps 35 = .ok (.ireturn, 1) := by decide +kernel
theorem dX6_stand_0 : decode cX6_stand 0 = .ok (.iconst (-1), 1) := by decide +kernel
theorem dX6_stand_1 : decode cX6_stand 1 = .ok (.istore_n 1, 1) := by decide +kernel
theorem dX6_stand_2 : decode cX6_stand 2 = .ok (.iconst 0, 1) := by decide +kernel
theorem dX6_stand_3 : decode cX6_stand 3 = .ok (.istore_n 2, 1) := by decide +kernel
theorem dX6_stand_4 : decode cX6_stand 4 = .ok (.aload_n 0, 1) := by decide +kernel
theorem dX6_stand_5 : decode cX6_stand 5 = .ok (.iconst 0, 1) := by decide +kernel
theorem dX6_stand_6 : decode cX6_stand 6 = .ok (.invokevirtual 104, 3) := by decide +kernel
theorem dX6_stand_9 : decode cX6_stand 9 = .ok (.iconst 0, 1) := by decide +kernel
theorem dX6_stand_10 : decode cX6_stand 10 = .ok (.istore_n 3, 1) := by decide +kernel
theorem dX6_stand_11 : decode cX6_stand 11 = .ok (.iload_n 3, 1) := by decide +kernel
theorem dX6_stand_12 : decode cX6_stand 12 = .ok (.bipush 67, 2) := by decide +kernel
theorem dX6_stand_14 : decode cX6_stand 14 = .ok (.if_icmp .ge 69, 3) := by decide +kernel
theorem dX6_stand_17 : decode cX6_stand 17 = .ok (.aload_n 0, 1) := by decide +kernel
theorem dX6_stand_18 : decode cX6_stand 18 = .ok (.iload_n 3, 1) := by decide +kernel
theorem dX6_stand_19 : decode cX6_stand 19 = .ok (.i2l, 1) := by decide +kernel
theorem dX6_stand_20 : decode cX6_stand 20 = .ok (.invokevirtual 128, 3) := by decide +kernel
theorem dX6_stand_23 : decode cX6_stand 23 = .ok (.ifCond .eq 54, 3) := by decide +kernel
theorem dX6_stand_26 : decode cX6_stand 26 = .ok (.aload_n 0, 1) := by decide +kernel
theorem dX6_stand_27 : decode cX6_stand 27 = .ok (.iload_n 3, 1) := by decide +kernel
theorem dX6_stand_28 : decode cX6_stand 28 = .ok (.invokevirtual 142, 3) := by decide +kernel
theorem dX6_stand_31 : decode cX6_stand 31 = .ok (.ifCond .ne 6, 3) := by decide +kernel
theorem dX6_stand_34 : decode cX6_stand 34 = .ok (.goto 43, 3) := by decide +kernel
theorem dX6_stand_37 : decode cX6_stand 37 = .ok (.aload_n 0, 1) := by decide +kernel
theorem dX6_stand_38 : decode cX6_stand 38 = .ok (.iload_n 3, 1) := by decide +kernel
theorem dX6_stand_39 : decode cX6_stand 39 = .ok (.putfield 61, 3) := by decide +kernel
theorem dX6_stand_42 : decode cX6_stand 42 = .ok (.aload_n 0, 1) := by decide +kernel
theorem dX6_stand_43 : decode cX6_stand 43 = .ok (.iconst 0, 1) := by decide +kernel
theorem dX6_stand_44 : decode cX6_stand 44 = .ok (.invokevirtual 238, 3) := by decide +kernel
theorem dX6_stand_47 : decode cX6_stand 47 = .ok (.aload_n 0, 1) := by decide +kernel
theorem dX6_stand_48 : decode cX6_stand 48 = .ok (.invokevirtual 250, 3) := by decide +kernel
theorem dX6_stand_51 : decode cX6_stand 51 = .ok (.istore 4, 2) := by decide +kernel
theorem dX6_stand_53 : decode cX6_stand 53 = .ok (.aload_n 0, 1) := by decide +kernel
theorem dX6_stand_54 : decode cX6_stand 54 = .ok (.iconst 0, 1) := by decide +kernel
theorem dX6_stand_55 : decode cX6_stand 55 = .ok (.invokevirtual 111, 3) := by decide +kernel
theorem dX6_stand_58 : decode cX6_stand 58 = .ok (.iload_n 1, 1) := by decide +kernel
theorem dX6_stand_59 : decode cX6_stand 59 = .ok (.iconst (-1), 1) := by decide +kernel
theorem dX6_stand_60 : decode cX6_stand 60 = .ok (.if_icmp .eq 12, 3) := by decide +kernel
theorem dX6_stand_63 : decode cX6_stand 63 = .ok (.iload 4, 2) := by decide +kernel
theorem dX6_stand_65 : decode cX6_stand 65 = .ok (.iload_n 2, 1) := by decide +kernel
theorem dX6_stand_66 : decode cX6_stand 66 = .ok (.if_icmp .lt 6, 3) := by decide +kernel
theorem dX6_stand_69 : decode cX6_stand 69 = .ok (.goto 8, 3) := by decide +kernel
theorem dX6_stand_72 : decode cX6_stand 72 = .ok (.iload 4, 2) := by decide +kernel
theorem dX6_stand_74 : decode cX6_stand 74 = .ok (.istore_n 2, 1) := by decide +kernel
theorem dX6_stand_75 : decode cX6_stand 75 = .ok (.iload_n 3, 1) := by decide +kernel
theorem dX6_stand_76 : decode cX6_stand 76 = .ok (.istore_n 1, 1) := by decide +kernel
theorem dX6_stand_77 : decode cX6_stand 77 = .ok (.iinc 3 1, 3) := by decide +kernel
theorem dX6_stand_80 : decode cX6_stand 80 = .ok (.goto (-69), 3) := by decide +kernel
theorem dX6_stand_83 : decode cX6_stand 83 = .ok (.iload_n 1, 1) := by decide +kernel
theorem dX6_stand_84 : decode cX6_stand 84 = .ok (.ireturn, 1) := by decide +kernel
theorem dX6_noTold_0 : decode cX6_noTold 0 = .ok (.aload_n 0, 1) := by decide +kernel
theorem dX6_noTold_1 : decode cX6_noTold 1 = .ok (.iload_n 1, 1) := by decide +kernel
theorem dX6_noTold_2 : decode cX6_noTold 2 = .ok (.invokevirtual 87, 3) := by decide +kernel
theorem dX6_noTold_5 : decode cX6_noTold 5 = .ok (.ifCond .ne 11, 3) := by decide +kernel
theorem dX6_noTold_8 : decode cX6_noTold 8 = .ok (.aload_n 0, 1) := by decide +kernel
theorem dX6_noTold_9 : decode cX6_noTold 9 = .ok (.iload_n 1, 1) := by decide +kernel
theorem dX6_noTold_10 : decode cX6_noTold 10 = .ok (.invokevirtual 90, 3) := by decide +kernel
theorem dX6_noTold_13 : decode cX6_noTold 13 = .ok (.goto 19, 3) := by decide +kernel
theorem dX6_noTold_16 : decode cX6_noTold 16 = .ok (.iload_n 2, 1) := by decide +kernel
theorem dX6_noTold_17 : decode cX6_noTold 17 = .ok (.aload_n 0, 1) := by decide +kernel
theorem dX6_noTold_18 : decode cX6_noTold 18 = .ok (.getfield 29, 3) := by decide +kernel
theorem dX6_noTold_21 : decode cX6_noTold 21 = .ok (.iload_n 1, 1) := by decide +kernel
theorem dX6_noTold_22 : decode cX6_noTold 22 = .ok (.iaload, 1) := by decide +kernel
theorem dX6_noTold_23 : decode cX6_noTold 23 = .ok (.if_icmp .le 8, 3) := by decide +kernel
theorem dX6_noTold_26 : decode cX6_noTold 26 = .ok (.bipush (-2), 2) := by decide +kernel
theorem dX6_noTold_28 : decode cX6_noTold 28 = .ok (.goto 4, 3) := by decide +kernel
theorem dX6_noTold_31 : decode cX6_noTold 31 = .ok (.iconst 0, 1) := by decide +kernel
theorem dX6_noTold_32 : decode cX6_noTold 32 = .ok (.ireturn, 1) := by decide +kernel
theorem dX6_toldAt_0 : decode cX6_toldAt 0 = .ok (.aload_n 0, 1) := by decide +kernel
theorem dX6_toldAt_1 : decode cX6_toldAt 1 = .ok (.getfield 32, 3) := by decide +kernel
theorem dX6_toldAt_4 : decode cX6_toldAt 4 = .ok (.bipush 40, 2) := by decide +kernel
theorem dX6_toldAt_6 : decode cX6_toldAt 6 = .ok (.iload_n 1, 1) := by decide +kernel
theorem dX6_toldAt_7 : decode cX6_toldAt 7 = .ok (.imul, 1) := by decide +kernel
theorem dX6_toldAt_8 : decode cX6_toldAt 8 = .ok (.iload_n 2, 1) := by decide +kernel
theorem dX6_toldAt_9 : decode cX6_toldAt 9 = .ok (.iadd, 1) := by decide +kernel
theorem dX6_toldAt_10 : decode cX6_toldAt 10 = .ok (.laload, 1) := by decide +kernel
theorem dX6_toldAt_11 : decode cX6_toldAt 11 = .ok (.lreturn, 1) := by decide +kernel
theorem dX6_odds_0 : decode cX6_odds 0 = .ok (.iload_n 1, 1) := by decide +kernel
theorem dX6_odds_1 : decode cX6_odds 1 = .ok (.invokestatic 79, 3) := by decide +kernel
theorem dX6_odds_4 : decode cX6_odds 4 = .ok (.ifCond .eq 13, 3) := by decide +kernel
theorem dX6_odds_7 : decode cX6_odds 7 = .ok (.iload_n 2, 1) := by decide +kernel
theorem dX6_odds_8 : decode cX6_odds 8 = .ok (.iconst 0, 1) := by decide +kernel
theorem dX6_odds_9 : decode cX6_odds 9 = .ok (.bipush 6, 2) := by decide +kernel
theorem dX6_odds_11 : decode cX6_odds 11 = .ok (.invokestatic 75, 3) := by decide +kernel
theorem dX6_odds_14 : decode cX6_odds 14 = .ok (.ifCond .ne 10, 3) := by decide +kernel
theorem dX6_odds_17 : decode cX6_odds 17 = .ok (.aload_n 0, 1) := by decide +kernel
theorem dX6_odds_18 : decode cX6_odds 18 = .ok (.bipush (-2), 2) := by decide +kernel
theorem dX6_odds_20 : decode cX6_odds 20 = .ok (.invokevirtual 83, 3) := by decide +kernel
theorem dX6_odds_23 : decode cX6_odds 23 = .ok (.ireturn, 1) := by decide +kernel
theorem dX6_odds_24 : decode cX6_odds 24 = .ok (.aload_n 0, 1) := by decide +kernel
theorem dX6_odds_25 : decode cX6_odds 25 = .ok (.iload_n 1, 1) := by decide +kernel
theorem dX6_odds_26 : decode cX6_odds 26 = .ok (.iload_n 2, 1) := by decide +kernel
theorem dX6_odds_27 : decode cX6_odds 27 = .ok (.invokevirtual 253, 3) := by decide +kernel
theorem dX6_odds_30 : decode cX6_odds 30 = .ok (.istore_n 3, 1) := by decide +kernel
theorem dX6_odds_31 : decode cX6_odds 31 = .ok (.iload_n 3, 1) := by decide +kernel
theorem dX6_odds_32 : decode cX6_odds 32 = .ok (.ifCond .ge 9, 3) := by decide +kernel
theorem dX6_odds_35 : decode cX6_odds 35 = .ok (.aload_n 0, 1) := by decide +kernel
theorem dX6_odds_36 : decode cX6_odds 36 = .ok (.iload_n 3, 1) := by decide +kernel
theorem dX6_odds_37 : decode cX6_odds 37 = .ok (.invokevirtual 83, 3) := by decide +kernel
theorem dX6_odds_40 : decode cX6_odds 40 = .ok (.ireturn, 1) := by decide +kernel
theorem dX6_odds_41 : decode cX6_odds 41 = .ok (.iconst 0, 1) := by decide +kernel
theorem dX6_odds_42 : decode cX6_odds 42 = .ok (.istore 4, 2) := by decide +kernel
theorem dX6_odds_44 : decode cX6_odds 44 = .ok (.iload 4, 2) := by decide +kernel
theorem dX6_odds_46 : decode cX6_odds 46 = .ok (.iload_n 2, 1) := by decide +kernel
theorem dX6_odds_47 : decode cX6_odds 47 = .ok (.if_icmp .ge 42, 3) := by decide +kernel
theorem dX6_odds_50 : decode cX6_odds 50 = .ok (.aload_n 0, 1) := by decide +kernel
theorem dX6_odds_51 : decode cX6_odds 51 = .ok (.iload_n 1, 1) := by decide +kernel
theorem dX6_odds_52 : decode cX6_odds 52 = .ok (.iload 4, 2) := by decide +kernel
theorem dX6_odds_54 : decode cX6_odds 54 = .ok (.invokevirtual 256, 3) := by decide +kernel
theorem dX6_odds_57 : decode cX6_odds 57 = .ok (.lconst 0, 1) := by decide +kernel
theorem dX6_odds_58 : decode cX6_odds 58 = .ok (.lcmp, 1) := by decide +kernel
theorem dX6_odds_59 : decode cX6_odds 59 = .ok (.ifCond .lt 17, 3) := by decide +kernel
theorem dX6_odds_62 : decode cX6_odds 62 = .ok (.aload_n 0, 1) := by decide +kernel
theorem dX6_odds_63 : decode cX6_odds 63 = .ok (.iload_n 1, 1) := by decide +kernel
theorem dX6_odds_64 : decode cX6_odds 64 = .ok (.iload 4, 2) := by decide +kernel
theorem dX6_odds_66 : decode cX6_odds 66 = .ok (.invokevirtual 256, 3) := by decide +kernel
theorem dX6_odds_69 : decode cX6_odds 69 = .ok (.ldc2_w 260, 3) := by decide +kernel
theorem dX6_odds_72 : decode cX6_odds 72 = .ok (.lcmp, 1) := by decide +kernel
theorem dX6_odds_73 : decode cX6_odds 73 = .ok (.ifCond .le 10, 3) := by decide +kernel
theorem dX6_odds_76 : decode cX6_odds 76 = .ok (.aload_n 0, 1) := by decide +kernel
theorem dX6_odds_77 : decode cX6_odds 77 = .ok (.bipush (-5), 2) := by decide +kernel
theorem dX6_odds_79 : decode cX6_odds 79 = .ok (.invokevirtual 83, 3) := by decide +kernel
theorem dX6_odds_82 : decode cX6_odds 82 = .ok (.ireturn, 1) := by decide +kernel
theorem dX6_odds_83 : decode cX6_odds 83 = .ok (.iinc 4 1, 3) := by decide +kernel
theorem dX6_odds_86 : decode cX6_odds 86 = .ok (.goto (-42), 3) := by decide +kernel
theorem dX6_odds_89 : decode cX6_odds 89 = .ok (.lconst 0, 1) := by decide +kernel
theorem dX6_odds_90 : decode cX6_odds 90 = .ok (.lstore 4, 2) := by decide +kernel
theorem dX6_odds_92 : decode cX6_odds 92 = .ok (.lconst 1, 1) := by decide +kernel
theorem dX6_odds_93 : decode cX6_odds 93 = .ok (.lstore 6, 2) := by decide +kernel
theorem dX6_odds_95 : decode cX6_odds 95 = .ok (.iconst 0, 1) := by decide +kernel
theorem dX6_odds_96 : decode cX6_odds 96 = .ok (.istore 8, 2) := by decide +kernel
theorem dX6_odds_98 : decode cX6_odds 98 = .ok (.iload 8, 2) := by decide +kernel
theorem dX6_odds_100 : decode cX6_odds 100 = .ok (.iload_n 2, 1) := by decide +kernel
theorem dX6_odds_101 : decode cX6_odds 101 = .ok (.if_icmp .ge 17, 3) := by decide +kernel
theorem dX6_odds_104 : decode cX6_odds 104 = .ok (.lload 6, 2) := by decide +kernel
theorem dX6_odds_106 : decode cX6_odds 106 = .ok (.ldc2_w 262, 3) := by decide +kernel
theorem dX6_odds_109 : decode cX6_odds 109 = .ok (.lmul, 1) := by decide +kernel
theorem dX6_odds_110 : decode cX6_odds 110 = .ok (.lstore 6, 2) := by decide +kernel
theorem dX6_odds_112 : decode cX6_odds 112 = .ok (.iinc 8 1, 3) := by decide +kernel
theorem dX6_odds_115 : decode cX6_odds 115 = .ok (.goto (-17), 3) := by decide +kernel
theorem dX6_odds_118 : decode cX6_odds 118 = .ok (.aload_n 0, 1) := by decide +kernel
theorem dX6_odds_119 : decode cX6_odds 119 = .ok (.iconst 0, 1) := by decide +kernel
theorem dX6_odds_120 : decode cX6_odds 120 = .ok (.invokevirtual 104, 3) := by decide +kernel
theorem dX6_odds_123 : decode cX6_odds 123 = .ok (.iconst 0, 1) := by decide +kernel
theorem dX6_odds_124 : decode cX6_odds 124 = .ok (.istore 8, 2) := by decide +kernel
theorem dX6_odds_126 : decode cX6_odds 126 = .ok (.iload 8, 2) := by decide +kernel
theorem dX6_odds_128 : decode cX6_odds 128 = .ok (.iconst 1, 1) := by decide +kernel
theorem dX6_odds_129 : decode cX6_odds 129 = .ok (.iload_n 2, 1) := by decide +kernel
theorem dX6_odds_130 : decode cX6_odds 130 = .ok (.ishl, 1) := by decide +kernel
theorem dX6_odds_131 : decode cX6_odds 131 = .ok (.if_icmp .ge 118, 3) := by decide +kernel
theorem dX6_odds_134 : decode cX6_odds 134 = .ok (.lconst 1, 1) := by decide +kernel
theorem dX6_odds_135 : decode cX6_odds 135 = .ok (.lstore 9, 2) := by decide +kernel
theorem dX6_odds_137 : decode cX6_odds 137 = .ok (.iconst 0, 1) := by decide +kernel
theorem dX6_odds_138 : decode cX6_odds 138 = .ok (.istore 11, 2) := by decide +kernel
theorem dX6_odds_140 : decode cX6_odds 140 = .ok (.iload 11, 2) := by decide +kernel
theorem dX6_odds_142 : decode cX6_odds 142 = .ok (.iload_n 2, 1) := by decide +kernel
theorem dX6_odds_143 : decode cX6_odds 143 = .ok (.if_icmp .ge 77, 3) := by decide +kernel
theorem dX6_odds_146 : decode cX6_odds 146 = .ok (.iload 8, 2) := by decide +kernel
theorem dX6_odds_148 : decode cX6_odds 148 = .ok (.iload 11, 2) := by decide +kernel
theorem dX6_odds_150 : decode cX6_odds 150 = .ok (.ishr, 1) := by decide +kernel
theorem dX6_odds_151 : decode cX6_odds 151 = .ok (.iconst 1, 1) := by decide +kernel
theorem dX6_odds_152 : decode cX6_odds 152 = .ok (.iand, 1) := by decide +kernel
theorem dX6_odds_153 : decode cX6_odds 153 = .ok (.iconst 1, 1) := by decide +kernel
theorem dX6_odds_154 : decode cX6_odds 154 = .ok (.if_icmp .ne 7, 3) := by decide +kernel
theorem dX6_odds_157 : decode cX6_odds 157 = .ok (.iconst 1, 1) := by decide +kernel
theorem dX6_odds_158 : decode cX6_odds 158 = .ok (.goto 4, 3) := by decide +kernel
theorem dX6_odds_161 : decode cX6_odds 161 = .ok (.iconst 0, 1) := by decide +kernel
theorem dX6_odds_162 : decode cX6_odds 162 = .ok (.istore 12, 2) := by decide +kernel
theorem dX6_odds_164 : decode cX6_odds 164 = .ok (.lload 9, 2) := by decide +kernel
theorem dX6_odds_166 : decode cX6_odds 166 = .ok (.iload 12, 2) := by decide +kernel
theorem dX6_odds_168 : decode cX6_odds 168 = .ok (.ifCond .eq 11, 3) := by decide +kernel
theorem dX6_odds_171 : decode cX6_odds 171 = .ok (.aload_n 0, 1) := by decide +kernel
theorem dX6_odds_172 : decode cX6_odds 172 = .ok (.getfield 64, 3) := by decide +kernel
theorem dX6_odds_175 : decode cX6_odds 175 = .ok (.i2l, 1) := by decide +kernel
theorem dX6_odds_176 : decode cX6_odds 176 = .ok (.goto 11, 3) := by decide +kernel
theorem dX6_odds_179 : decode cX6_odds 179 = .ok (.bipush 12, 2) := by decide +kernel
theorem dX6_odds_181 : decode cX6_odds 181 = .ok (.aload_n 0, 1) := by decide +kernel
theorem dX6_odds_182 : decode cX6_odds 182 = .ok (.getfield 64, 3) := by decide +kernel
theorem dX6_odds_185 : decode cX6_odds 185 = .ok (.isub, 1) := by decide +kernel
theorem dX6_odds_186 : decode cX6_odds 186 = .ok (.i2l, 1) := by decide +kernel
theorem dX6_odds_187 : decode cX6_odds 187 = .ok (.lmul, 1) := by decide +kernel
theorem dX6_odds_188 : decode cX6_odds 188 = .ok (.lstore 9, 2) := by decide +kernel
theorem dX6_odds_190 : decode cX6_odds 190 = .ok (.aload_n 0, 1) := by decide +kernel
theorem dX6_odds_191 : decode cX6_odds 191 = .ok (.iload 12, 2) := by decide +kernel
theorem dX6_odds_193 : decode cX6_odds 193 = .ok (.ifCond .eq 10, 3) := by decide +kernel
theorem dX6_odds_196 : decode cX6_odds 196 = .ok (.aload_n 0, 1) := by decide +kernel
theorem dX6_odds_197 : decode cX6_odds 197 = .ok (.getfield 235, 3) := by decide +kernel
theorem dX6_odds_200 : decode cX6_odds 200 = .ok (.goto 11, 3) := by decide +kernel
theorem dX6_odds_203 : decode cX6_odds 203 = .ok (.aload_n 0, 1) := by decide +kernel
theorem dX6_odds_204 : decode cX6_odds 204 = .ok (.iload_n 1, 1) := by decide +kernel
theorem dX6_odds_205 : decode cX6_odds 205 = .ok (.iload 11, 2) := by decide +kernel
theorem dX6_odds_207 : decode cX6_odds 207 = .ok (.invokevirtual 256, 3) := by decide +kernel
theorem dX6_odds_210 : decode cX6_odds 210 = .ok (.l2i, 1) := by decide +kernel
theorem dX6_odds_211 : decode cX6_odds 211 = .ok (.invokevirtual 238, 3) := by decide +kernel
theorem dX6_odds_214 : decode cX6_odds 214 = .ok (.iinc 11 1, 3) := by decide +kernel
theorem dX6_odds_217 : decode cX6_odds 217 = .ok (.goto (-77), 3) := by decide +kernel
theorem dX6_odds_220 : decode cX6_odds 220 = .ok (.aload_n 0, 1) := by decide +kernel
theorem dX6_odds_221 : decode cX6_odds 221 = .ok (.invokevirtual 135, 3) := by decide +kernel
theorem dX6_odds_224 : decode cX6_odds 224 = .ok (.aload_n 0, 1) := by decide +kernel
theorem dX6_odds_225 : decode cX6_odds 225 = .ok (.getfield 72, 3) := by decide +kernel
theorem dX6_odds_228 : decode cX6_odds 228 = .ok (.if_icmp .ne 10, 3) := by decide +kernel
theorem dX6_odds_231 : decode cX6_odds 231 = .ok (.lload 4, 2) := by decide +kernel
theorem dX6_odds_233 : decode cX6_odds 233 = .ok (.lload 9, 2) := by decide +kernel
theorem dX6_odds_235 : decode cX6_odds 235 = .ok (.ladd, 1) := by decide +kernel
theorem dX6_odds_236 : decode cX6_odds 236 = .ok (.lstore 4, 2) := by decide +kernel
theorem dX6_odds_238 : decode cX6_odds 238 = .ok (.aload_n 0, 1) := by decide +kernel
theorem dX6_odds_239 : decode cX6_odds 239 = .ok (.iconst 0, 1) := by decide +kernel
theorem dX6_odds_240 : decode cX6_odds 240 = .ok (.invokevirtual 111, 3) := by decide +kernel
theorem dX6_odds_243 : decode cX6_odds 243 = .ok (.iinc 8 1, 3) := by decide +kernel
theorem dX6_odds_246 : decode cX6_odds 246 = .ok (.goto (-120), 3) := by decide +kernel
theorem dX6_odds_249 : decode cX6_odds 249 = .ok (.ldc2_w 264, 3) := by decide +kernel
theorem dX6_odds_252 : decode cX6_odds 252 = .ok (.lload 4, 2) := by decide +kernel
theorem dX6_odds_254 : decode cX6_odds 254 = .ok (.lmul, 1) := by decide +kernel
theorem dX6_odds_255 : decode cX6_odds 255 = .ok (.lload 6, 2) := by decide +kernel
theorem dX6_odds_257 : decode cX6_odds 257 = .ok (.ldiv, 1) := by decide +kernel
theorem dX6_odds_258 : decode cX6_odds 258 = .ok (.l2i, 1) := by decide +kernel
theorem dX6_odds_259 : decode cX6_odds 259 = .ok (.ireturn, 1) := by decide +kernel
theorem dX6_apart_0 : decode cX6_apart 0 = .ok (.iconst 0, 1) := by decide +kernel
theorem dX6_apart_1 : decode cX6_apart 1 = .ok (.istore_n 1, 1) := by decide +kernel
theorem dX6_apart_2 : decode cX6_apart 2 = .ok (.iconst 0, 1) := by decide +kernel
theorem dX6_apart_3 : decode cX6_apart 3 = .ok (.istore_n 2, 1) := by decide +kernel
theorem dX6_apart_4 : decode cX6_apart 4 = .ok (.iload_n 2, 1) := by decide +kernel
theorem dX6_apart_5 : decode cX6_apart 5 = .ok (.aload_n 0, 1) := by decide +kernel
theorem dX6_apart_6 : decode cX6_apart 6 = .ok (.getfield 72, 3) := by decide +kernel
theorem dX6_apart_9 : decode cX6_apart 9 = .ok (.if_icmp .ge 58, 3) := by decide +kernel
theorem dX6_apart_12 : decode cX6_apart 12 = .ok (.iconst 0, 1) := by decide +kernel
theorem dX6_apart_13 : decode cX6_apart 13 = .ok (.istore_n 3, 1) := by decide +kernel
theorem dX6_apart_14 : decode cX6_apart 14 = .ok (.iload_n 3, 1) := by decide +kernel
theorem dX6_apart_15 : decode cX6_apart 15 = .ok (.iload_n 2, 1) := by decide +kernel
theorem dX6_apart_16 : decode cX6_apart 16 = .ok (.if_icmp .ge 45, 3) := by decide +kernel
theorem dX6_apart_19 : decode cX6_apart 19 = .ok (.aload_n 0, 1) := by decide +kernel
theorem dX6_apart_20 : decode cX6_apart 20 = .ok (.iload_n 2, 1) := by decide +kernel
theorem dX6_apart_21 : decode cX6_apart 21 = .ok (.invokevirtual 122, 3) := by decide +kernel
theorem dX6_apart_24 : decode cX6_apart 24 = .ok (.ifCond .ne 31, 3) := by decide +kernel
theorem dX6_apart_27 : decode cX6_apart 27 = .ok (.aload_n 0, 1) := by decide +kernel
theorem dX6_apart_28 : decode cX6_apart 28 = .ok (.iload_n 3, 1) := by decide +kernel
theorem dX6_apart_29 : decode cX6_apart 29 = .ok (.invokevirtual 122, 3) := by decide +kernel
theorem dX6_apart_32 : decode cX6_apart 32 = .ok (.ifCond .ne 23, 3) := by decide +kernel
theorem dX6_apart_35 : decode cX6_apart 35 = .ok (.iload_n 1, 1) := by decide +kernel
theorem dX6_apart_36 : decode cX6_apart 36 = .ok (.aload_n 0, 1) := by decide +kernel
theorem dX6_apart_37 : decode cX6_apart 37 = .ok (.getfield 20, 3) := by decide +kernel
theorem dX6_apart_40 : decode cX6_apart 40 = .ok (.iload_n 2, 1) := by decide +kernel
theorem dX6_apart_41 : decode cX6_apart 41 = .ok (.iaload, 1) := by decide +kernel
theorem dX6_apart_42 : decode cX6_apart 42 = .ok (.aload_n 0, 1) := by decide +kernel
theorem dX6_apart_43 : decode cX6_apart 43 = .ok (.getfield 20, 3) := by decide +kernel
theorem dX6_apart_46 : decode cX6_apart 46 = .ok (.iload_n 3, 1) := by decide +kernel
theorem dX6_apart_47 : decode cX6_apart 47 = .ok (.iaload, 1) := by decide +kernel
theorem dX6_apart_48 : decode cX6_apart 48 = .ok (.invokestatic 215, 3) := by decide +kernel
theorem dX6_apart_51 : decode cX6_apart 51 = .ok (.invokestatic 266, 3) := by decide +kernel
theorem dX6_apart_54 : decode cX6_apart 54 = .ok (.istore_n 1, 1) := by decide +kernel
theorem dX6_apart_55 : decode cX6_apart 55 = .ok (.iinc 3 1, 3) := by decide +kernel
theorem dX6_apart_58 : decode cX6_apart 58 = .ok (.goto (-44), 3) := by decide +kernel
theorem dX6_apart_61 : decode cX6_apart 61 = .ok (.iinc 2 1, 3) := by decide +kernel
theorem dX6_apart_64 : decode cX6_apart 64 = .ok (.goto (-60), 3) := by decide +kernel
theorem dX6_apart_67 : decode cX6_apart 67 = .ok (.iload_n 1, 1) := by decide +kernel
theorem dX6_apart_68 : decode cX6_apart 68 = .ok (.ireturn, 1) := by decide +kernel
theorem dX6_flock_0 : decode cX6_flock 0 = .ok (.iconst 0, 1) := by decide +kernel
theorem dX6_flock_1 : decode cX6_flock 1 = .ok (.istore_n 1, 1) := by decide +kernel
theorem dX6_flock_2 : decode cX6_flock 2 = .ok (.iconst 0, 1) := by decide +kernel
theorem dX6_flock_3 : decode cX6_flock 3 = .ok (.istore_n 2, 1) := by decide +kernel
theorem dX6_flock_4 : decode cX6_flock 4 = .ok (.iload_n 2, 1) := by decide +kernel
theorem dX6_flock_5 : decode cX6_flock 5 = .ok (.aload_n 0, 1) := by decide +kernel
theorem dX6_flock_6 : decode cX6_flock 6 = .ok (.getfield 72, 3) := by decide +kernel
theorem dX6_flock_9 : decode cX6_flock 9 = .ok (.if_icmp .ge 71, 3) := by decide +kernel
theorem dX6_flock_12 : decode cX6_flock 12 = .ok (.iconst 0, 1) := by decide +kernel
theorem dX6_flock_13 : decode cX6_flock 13 = .ok (.istore_n 3, 1) := by decide +kernel
theorem dX6_flock_14 : decode cX6_flock 14 = .ok (.iload_n 3, 1) := by decide +kernel
theorem dX6_flock_15 : decode cX6_flock 15 = .ok (.aload_n 0, 1) := by decide +kernel
theorem dX6_flock_16 : decode cX6_flock 16 = .ok (.getfield 72, 3) := by decide +kernel
theorem dX6_flock_19 : decode cX6_flock 19 = .ok (.if_icmp .ge 55, 3) := by decide +kernel
theorem dX6_flock_22 : decode cX6_flock 22 = .ok (.iload_n 2, 1) := by decide +kernel
theorem dX6_flock_23 : decode cX6_flock 23 = .ok (.iload_n 3, 1) := by decide +kernel
theorem dX6_flock_24 : decode cX6_flock 24 = .ok (.if_icmp .eq 44, 3) := by decide +kernel
theorem dX6_flock_27 : decode cX6_flock 27 = .ok (.aload_n 0, 1) := by decide +kernel
theorem dX6_flock_28 : decode cX6_flock 28 = .ok (.iload_n 2, 1) := by decide +kernel
theorem dX6_flock_29 : decode cX6_flock 29 = .ok (.invokevirtual 122, 3) := by decide +kernel
theorem dX6_flock_32 : decode cX6_flock 32 = .ok (.ifCond .ne 36, 3) := by decide +kernel
theorem dX6_flock_35 : decode cX6_flock 35 = .ok (.aload_n 0, 1) := by decide +kernel
theorem dX6_flock_36 : decode cX6_flock 36 = .ok (.iload_n 3, 1) := by decide +kernel
theorem dX6_flock_37 : decode cX6_flock 37 = .ok (.invokevirtual 122, 3) := by decide +kernel
theorem dX6_flock_40 : decode cX6_flock 40 = .ok (.ifCond .ne 28, 3) := by decide +kernel
theorem dX6_flock_43 : decode cX6_flock 43 = .ok (.aload_n 0, 1) := by decide +kernel
theorem dX6_flock_44 : decode cX6_flock 44 = .ok (.getfield 20, 3) := by decide +kernel
theorem dX6_flock_47 : decode cX6_flock 47 = .ok (.iload_n 2, 1) := by decide +kernel
theorem dX6_flock_48 : decode cX6_flock 48 = .ok (.iaload, 1) := by decide +kernel
theorem dX6_flock_49 : decode cX6_flock 49 = .ok (.aload_n 0, 1) := by decide +kernel
theorem dX6_flock_50 : decode cX6_flock 50 = .ok (.getfield 20, 3) := by decide +kernel
theorem dX6_flock_53 : decode cX6_flock 53 = .ok (.iload_n 3, 1) := by decide +kernel
theorem dX6_flock_54 : decode cX6_flock 54 = .ok (.iaload, 1) := by decide +kernel
theorem dX6_flock_55 : decode cX6_flock 55 = .ok (.invokestatic 215, 3) := by decide +kernel
theorem dX6_flock_58 : decode cX6_flock 58 = .ok (.iconst 2, 1) := by decide +kernel
theorem dX6_flock_59 : decode cX6_flock 59 = .ok (.if_icmp .le 9, 3) := by decide +kernel
theorem dX6_flock_62 : decode cX6_flock 62 = .ok (.iload_n 1, 1) := by decide +kernel
theorem dX6_flock_63 : decode cX6_flock 63 = .ok (.iconst 1, 1) := by decide +kernel
theorem dX6_flock_64 : decode cX6_flock 64 = .ok (.iload_n 2, 1) := by decide +kernel
theorem dX6_flock_65 : decode cX6_flock 65 = .ok (.ishl, 1) := by decide +kernel
theorem dX6_flock_66 : decode cX6_flock 66 = .ok (.ior, 1) := by decide +kernel
theorem dX6_flock_67 : decode cX6_flock 67 = .ok (.istore_n 1, 1) := by decide +kernel
theorem dX6_flock_68 : decode cX6_flock 68 = .ok (.iinc 3 1, 3) := by decide +kernel
theorem dX6_flock_71 : decode cX6_flock 71 = .ok (.goto (-57), 3) := by decide +kernel
theorem dX6_flock_74 : decode cX6_flock 74 = .ok (.iinc 2 1, 3) := by decide +kernel
theorem dX6_flock_77 : decode cX6_flock 77 = .ok (.goto (-73), 3) := by decide +kernel
theorem dX6_flock_80 : decode cX6_flock 80 = .ok (.iload_n 1, 1) := by decide +kernel
theorem dX6_flock_81 : decode cX6_flock 81 = .ok (.ireturn, 1) := by decide +kernel
theorem dX6_nearest_0 : decode cX6_nearest 0 = .ok (.iconst (-1), 1) := by decide +kernel
theorem dX6_nearest_1 : decode cX6_nearest 1 = .ok (.istore_n 1, 1) := by decide +kernel
theorem dX6_nearest_2 : decode cX6_nearest 2 = .ok (.iconst 0, 1) := by decide +kernel
theorem dX6_nearest_3 : decode cX6_nearest 3 = .ok (.istore_n 2, 1) := by decide +kernel
theorem dX6_nearest_4 : decode cX6_nearest 4 = .ok (.iload_n 2, 1) := by decide +kernel
theorem dX6_nearest_5 : decode cX6_nearest 5 = .ok (.aload_n 0, 1) := by decide +kernel
theorem dX6_nearest_6 : decode cX6_nearest 6 = .ok (.getfield 72, 3) := by decide +kernel
theorem dX6_nearest_9 : decode cX6_nearest 9 = .ok (.if_icmp .ge 53, 3) := by decide +kernel
theorem dX6_nearest_12 : decode cX6_nearest 12 = .ok (.aload_n 0, 1) := by decide +kernel
theorem dX6_nearest_13 : decode cX6_nearest 13 = .ok (.iload_n 2, 1) := by decide +kernel
theorem dX6_nearest_14 : decode cX6_nearest 14 = .ok (.invokevirtual 122, 3) := by decide +kernel
theorem dX6_nearest_17 : decode cX6_nearest 17 = .ok (.ifCond .ne 39, 3) := by decide +kernel
theorem dX6_nearest_20 : decode cX6_nearest 20 = .ok (.iload_n 1, 1) := by decide +kernel
theorem dX6_nearest_21 : decode cX6_nearest 21 = .ok (.iconst (-1), 1) := by decide +kernel
theorem dX6_nearest_22 : decode cX6_nearest 22 = .ok (.if_icmp .eq 32, 3) := by decide +kernel
theorem dX6_nearest_25 : decode cX6_nearest 25 = .ok (.aload_n 0, 1) := by decide +kernel
theorem dX6_nearest_26 : decode cX6_nearest 26 = .ok (.getfield 20, 3) := by decide +kernel
theorem dX6_nearest_29 : decode cX6_nearest 29 = .ok (.iload_n 2, 1) := by decide +kernel
theorem dX6_nearest_30 : decode cX6_nearest 30 = .ok (.iaload, 1) := by decide +kernel
theorem dX6_nearest_31 : decode cX6_nearest 31 = .ok (.aload_n 0, 1) := by decide +kernel
theorem dX6_nearest_32 : decode cX6_nearest 32 = .ok (.getfield 61, 3) := by decide +kernel
theorem dX6_nearest_35 : decode cX6_nearest 35 = .ok (.invokestatic 215, 3) := by decide +kernel
theorem dX6_nearest_38 : decode cX6_nearest 38 = .ok (.aload_n 0, 1) := by decide +kernel
theorem dX6_nearest_39 : decode cX6_nearest 39 = .ok (.getfield 20, 3) := by decide +kernel
theorem dX6_nearest_42 : decode cX6_nearest 42 = .ok (.iload_n 1, 1) := by decide +kernel
theorem dX6_nearest_43 : decode cX6_nearest 43 = .ok (.iaload, 1) := by decide +kernel
theorem dX6_nearest_44 : decode cX6_nearest 44 = .ok (.aload_n 0, 1) := by decide +kernel
theorem dX6_nearest_45 : decode cX6_nearest 45 = .ok (.getfield 61, 3) := by decide +kernel
theorem dX6_nearest_48 : decode cX6_nearest 48 = .ok (.invokestatic 215, 3) := by decide +kernel
theorem dX6_nearest_51 : decode cX6_nearest 51 = .ok (.if_icmp .ge 5, 3) := by decide +kernel
theorem dX6_nearest_54 : decode cX6_nearest 54 = .ok (.iload_n 2, 1) := by decide +kernel
theorem dX6_nearest_55 : decode cX6_nearest 55 = .ok (.istore_n 1, 1) := by decide +kernel
theorem dX6_nearest_56 : decode cX6_nearest 56 = .ok (.iinc 2 1, 3) := by decide +kernel
theorem dX6_nearest_59 : decode cX6_nearest 59 = .ok (.goto (-55), 3) := by decide +kernel
theorem dX6_nearest_62 : decode cX6_nearest 62 = .ok (.iload_n 1, 1) := by decide +kernel
theorem dX6_nearest_63 : decode cX6_nearest 63 = .ok (.ireturn, 1) := by decide +kernel
theorem dX6_moved_0 : decode cX6_moved 0 = .ok (.aload_n 0, 1) := by decide +kernel
theorem dX6_moved_1 : decode cX6_moved 1 = .ok (.iconst 0, 1) := by decide +kernel
theorem dX6_moved_2 : decode cX6_moved 2 = .ok (.invokevirtual 104, 3) := by decide +kernel
theorem dX6_moved_5 : decode cX6_moved 5 = .ok (.aload_n 0, 1) := by decide +kernel
theorem dX6_moved_6 : decode cX6_moved 6 = .ok (.iconst 0, 1) := by decide +kernel
theorem dX6_moved_7 : decode cX6_moved 7 = .ok (.invokevirtual 238, 3) := by decide +kernel
theorem dX6_moved_10 : decode cX6_moved 10 = .ok (.iconst 0, 1) := by decide +kernel
theorem dX6_moved_11 : decode cX6_moved 11 = .ok (.istore_n 1, 1) := by decide +kernel
theorem dX6_moved_12 : decode cX6_moved 12 = .ok (.iconst 0, 1) := by decide +kernel
theorem dX6_moved_13 : decode cX6_moved 13 = .ok (.istore_n 2, 1) := by decide +kernel
theorem dX6_moved_14 : decode cX6_moved 14 = .ok (.iload_n 2, 1) := by decide +kernel
theorem dX6_moved_15 : decode cX6_moved 15 = .ok (.aload_n 0, 1) := by decide +kernel
theorem dX6_moved_16 : decode cX6_moved 16 = .ok (.getfield 72, 3) := by decide +kernel
theorem dX6_moved_19 : decode cX6_moved 19 = .ok (.if_icmp .ge 32, 3) := by decide +kernel
theorem dX6_moved_22 : decode cX6_moved 22 = .ok (.aload_n 0, 1) := by decide +kernel
theorem dX6_moved_23 : decode cX6_moved 23 = .ok (.getfield 20, 3) := by decide +kernel
theorem dX6_moved_26 : decode cX6_moved 26 = .ok (.iload_n 2, 1) := by decide +kernel
theorem dX6_moved_27 : decode cX6_moved 27 = .ok (.iaload, 1) := by decide +kernel
theorem dX6_moved_28 : decode cX6_moved 28 = .ok (.aload_n 0, 1) := by decide +kernel
theorem dX6_moved_29 : decode cX6_moved 29 = .ok (.getfield 45, 3) := by decide +kernel
theorem dX6_moved_32 : decode cX6_moved 32 = .ok (.iconst 2, 1) := by decide +kernel
theorem dX6_moved_33 : decode cX6_moved 33 = .ok (.iload_n 2, 1) := by decide +kernel
theorem dX6_moved_34 : decode cX6_moved 34 = .ok (.iadd, 1) := by decide +kernel
theorem dX6_moved_35 : decode cX6_moved 35 = .ok (.iaload, 1) := by decide +kernel
theorem dX6_moved_36 : decode cX6_moved 36 = .ok (.if_icmp .eq 9, 3) := by decide +kernel
theorem dX6_moved_39 : decode cX6_moved 39 = .ok (.iload_n 1, 1) := by decide +kernel
theorem dX6_moved_40 : decode cX6_moved 40 = .ok (.iconst 1, 1) := by decide +kernel
theorem dX6_moved_41 : decode cX6_moved 41 = .ok (.iload_n 2, 1) := by decide +kernel
theorem dX6_moved_42 : decode cX6_moved 42 = .ok (.ishl, 1) := by decide +kernel
theorem dX6_moved_43 : decode cX6_moved 43 = .ok (.ior, 1) := by decide +kernel
theorem dX6_moved_44 : decode cX6_moved 44 = .ok (.istore_n 1, 1) := by decide +kernel
theorem dX6_moved_45 : decode cX6_moved 45 = .ok (.iinc 2 1, 3) := by decide +kernel
theorem dX6_moved_48 : decode cX6_moved 48 = .ok (.goto (-34), 3) := by decide +kernel
theorem dX6_moved_51 : decode cX6_moved 51 = .ok (.aload_n 0, 1) := by decide +kernel
theorem dX6_moved_52 : decode cX6_moved 52 = .ok (.iconst 0, 1) := by decide +kernel
theorem dX6_moved_53 : decode cX6_moved 53 = .ok (.invokevirtual 111, 3) := by decide +kernel
theorem dX6_moved_56 : decode cX6_moved 56 = .ok (.iload_n 1, 1) := by decide +kernel
theorem dX6_moved_57 : decode cX6_moved 57 = .ok (.ireturn, 1) := by decide +kernel
theorem dX6_ewes_0 : decode cX6_ewes 0 = .ok (.iload_n 1, 1) := by decide +kernel
theorem dX6_ewes_1 : decode cX6_ewes 1 = .ok (.tableswitch 51 0 3 #[31, 36, 41, 46], 31) := by decide +kernel
theorem dX6_ewes_32 : decode cX6_ewes 32 = .ok (.aload_n 0, 1) := by decide +kernel
theorem dX6_ewes_33 : decode cX6_ewes 33 = .ok (.invokevirtual 269, 3) := by decide +kernel
theorem dX6_ewes_36 : decode cX6_ewes 36 = .ok (.ireturn, 1) := by decide +kernel
theorem dX6_ewes_37 : decode cX6_ewes 37 = .ok (.aload_n 0, 1) := by decide +kernel
theorem dX6_ewes_38 : decode cX6_ewes 38 = .ok (.invokevirtual 272, 3) := by decide +kernel
theorem dX6_ewes_41 : decode cX6_ewes 41 = .ok (.ireturn, 1) := by decide +kernel
theorem dX6_ewes_42 : decode cX6_ewes 42 = .ok (.aload_n 0, 1) := by decide +kernel
theorem dX6_ewes_43 : decode cX6_ewes 43 = .ok (.invokevirtual 275, 3) := by decide +kernel
theorem dX6_ewes_46 : decode cX6_ewes 46 = .ok (.ireturn, 1) := by decide +kernel
theorem dX6_ewes_47 : decode cX6_ewes 47 = .ok (.aload_n 0, 1) := by decide +kernel
theorem dX6_ewes_48 : decode cX6_ewes 48 = .ok (.invokevirtual 278, 3) := by decide +kernel
theorem dX6_ewes_51 : decode cX6_ewes 51 = .ok (.ireturn, 1) := by decide +kernel
theorem dX6_ewes_52 : decode cX6_ewes 52 = .ok (.aload_n 0, 1) := by decide +kernel
theorem dX6_ewes_53 : decode cX6_ewes 53 = .ok (.bipush (-2), 2) := by decide +kernel
theorem dX6_ewes_55 : decode cX6_ewes 55 = .ok (.invokevirtual 83, 3) := by decide +kernel
theorem dX6_ewes_58 : decode cX6_ewes 58 = .ok (.ireturn, 1) := by decide +kernel
theorem dX6_walks_0 : decode cX6_walks 0 = .ok (.iconst 0, 1) := by decide +kernel
theorem dX6_walks_1 : decode cX6_walks 1 = .ok (.istore_n 1, 1) := by decide +kernel
theorem dX6_walks_2 : decode cX6_walks 2 = .ok (.iload_n 1, 1) := by decide +kernel
theorem dX6_walks_3 : decode cX6_walks 3 = .ok (.bipush 67, 2) := by decide +kernel
theorem dX6_walks_5 : decode cX6_walks 5 = .ok (.if_icmp .ge 16, 3) := by decide +kernel
theorem dX6_walks_8 : decode cX6_walks 8 = .ok (.aload_n 0, 1) := by decide +kernel
theorem dX6_walks_9 : decode cX6_walks 9 = .ok (.getfield 54, 3) := by decide +kernel
theorem dX6_walks_12 : decode cX6_walks 12 = .ok (.iload_n 1, 1) := by decide +kernel
theorem dX6_walks_13 : decode cX6_walks 13 = .ok (.iconst 0, 1) := by decide +kernel
theorem dX6_walks_14 : decode cX6_walks 14 = .ok (.iastore, 1) := by decide +kernel
theorem dX6_walks_15 : decode cX6_walks 15 = .ok (.iinc 1 1, 3) := by decide +kernel
theorem dX6_walks_18 : decode cX6_walks 18 = .ok (.goto (-16), 3) := by decide +kernel
theorem dX6_walks_21 : decode cX6_walks 21 = .ok (.aload_n 0, 1) := by decide +kernel
theorem dX6_walks_22 : decode cX6_walks 22 = .ok (.getfield 54, 3) := by decide +kernel
theorem dX6_walks_25 : decode cX6_walks 25 = .ok (.aload_n 0, 1) := by decide +kernel
theorem dX6_walks_26 : decode cX6_walks 26 = .ok (.getfield 61, 3) := by decide +kernel
theorem dX6_walks_29 : decode cX6_walks 29 = .ok (.iconst 1, 1) := by decide +kernel
theorem dX6_walks_30 : decode cX6_walks 30 = .ok (.iastore, 1) := by decide +kernel
theorem dX6_walks_31 : decode cX6_walks 31 = .ok (.iconst 1, 1) := by decide +kernel
theorem dX6_walks_32 : decode cX6_walks 32 = .ok (.istore_n 1, 1) := by decide +kernel
theorem dX6_walks_33 : decode cX6_walks 33 = .ok (.iload_n 1, 1) := by decide +kernel
theorem dX6_walks_34 : decode cX6_walks 34 = .ok (.bipush 50, 2) := by decide +kernel
theorem dX6_walks_36 : decode cX6_walks 36 = .ok (.if_icmp .ge 92, 3) := by decide +kernel
theorem dX6_walks_39 : decode cX6_walks 39 = .ok (.iconst 0, 1) := by decide +kernel
theorem dX6_walks_40 : decode cX6_walks 40 = .ok (.istore_n 2, 1) := by decide +kernel
theorem dX6_walks_41 : decode cX6_walks 41 = .ok (.iload_n 2, 1) := by decide +kernel
theorem dX6_walks_42 : decode cX6_walks 42 = .ok (.bipush 67, 2) := by decide +kernel
theorem dX6_walks_44 : decode cX6_walks 44 = .ok (.if_icmp .ge 78, 3) := by decide +kernel
theorem dX6_walks_47 : decode cX6_walks 47 = .ok (.iconst 1, 1) := by decide +kernel
theorem dX6_walks_48 : decode cX6_walks 48 = .ok (.istore_n 3, 1) := by decide +kernel
theorem dX6_walks_49 : decode cX6_walks 49 = .ok (.iload_n 3, 1) := by decide +kernel
theorem dX6_walks_50 : decode cX6_walks 50 = .ok (.iconst 5, 1) := by decide +kernel
theorem dX6_walks_51 : decode cX6_walks 51 = .ok (.if_icmp .ge 65, 3) := by decide +kernel
theorem dX6_walks_54 : decode cX6_walks 54 = .ok (.aload_n 0, 1) := by decide +kernel
theorem dX6_walks_55 : decode cX6_walks 55 = .ok (.getfield 54, 3) := by decide +kernel
theorem dX6_walks_58 : decode cX6_walks 58 = .ok (.iload_n 2, 1) := by decide +kernel
theorem dX6_walks_59 : decode cX6_walks 59 = .ok (.iaload, 1) := by decide +kernel
theorem dX6_walks_60 : decode cX6_walks 60 = .ok (.iload_n 1, 1) := by decide +kernel
theorem dX6_walks_61 : decode cX6_walks 61 = .ok (.if_icmp .eq 6, 3) := by decide +kernel
theorem dX6_walks_64 : decode cX6_walks 64 = .ok (.goto 46, 3) := by decide +kernel
theorem dX6_walks_67 : decode cX6_walks 67 = .ok (.aload_n 0, 1) := by decide +kernel
theorem dX6_walks_68 : decode cX6_walks 68 = .ok (.iload_n 2, 1) := by decide +kernel
theorem dX6_walks_69 : decode cX6_walks 69 = .ok (.iload_n 3, 1) := by decide +kernel
theorem dX6_walks_70 : decode cX6_walks 70 = .ok (.invokevirtual 218, 3) := by decide +kernel
theorem dX6_walks_73 : decode cX6_walks 73 = .ok (.istore 4, 2) := by decide +kernel
theorem dX6_walks_75 : decode cX6_walks 75 = .ok (.iload 4, 2) := by decide +kernel
theorem dX6_walks_77 : decode cX6_walks 77 = .ok (.iconst (-1), 1) := by decide +kernel
theorem dX6_walks_78 : decode cX6_walks 78 = .ok (.if_icmp .eq 32, 3) := by decide +kernel
theorem dX6_walks_81 : decode cX6_walks 81 = .ok (.iload 4, 2) := by decide +kernel
theorem dX6_walks_83 : decode cX6_walks 83 = .ok (.aload_n 0, 1) := by decide +kernel
theorem dX6_walks_84 : decode cX6_walks 84 = .ok (.getfield 119, 3) := by decide +kernel
theorem dX6_walks_87 : decode cX6_walks 87 = .ok (.if_icmp .eq 23, 3) := by decide +kernel
theorem dX6_walks_90 : decode cX6_walks 90 = .ok (.aload_n 0, 1) := by decide +kernel
theorem dX6_walks_91 : decode cX6_walks 91 = .ok (.getfield 54, 3) := by decide +kernel
theorem dX6_walks_94 : decode cX6_walks 94 = .ok (.iload 4, 2) := by decide +kernel
theorem dX6_walks_96 : decode cX6_walks 96 = .ok (.iaload, 1) := by decide +kernel
theorem dX6_walks_97 : decode cX6_walks 97 = .ok (.ifCond .ne 13, 3) := by decide +kernel
theorem dX6_walks_100 : decode cX6_walks 100 = .ok (.aload_n 0, 1) := by decide +kernel
theorem dX6_walks_101 : decode cX6_walks 101 = .ok (.getfield 54, 3) := by decide +kernel
theorem dX6_walks_104 : decode cX6_walks 104 = .ok (.iload 4, 2) := by decide +kernel
theorem dX6_walks_106 : decode cX6_walks 106 = .ok (.iload_n 1, 1) := by decide +kernel
theorem dX6_walks_107 : decode cX6_walks 107 = .ok (.iconst 1, 1) := by decide +kernel
theorem dX6_walks_108 : decode cX6_walks 108 = .ok (.iadd, 1) := by decide +kernel
theorem dX6_walks_109 : decode cX6_walks 109 = .ok (.iastore, 1) := by decide +kernel
theorem dX6_walks_110 : decode cX6_walks 110 = .ok (.iinc 3 1, 3) := by decide +kernel
theorem dX6_walks_113 : decode cX6_walks 113 = .ok (.goto (-64), 3) := by decide +kernel
theorem dX6_walks_116 : decode cX6_walks 116 = .ok (.iinc 2 1, 3) := by decide +kernel
theorem dX6_walks_119 : decode cX6_walks 119 = .ok (.goto (-78), 3) := by decide +kernel
theorem dX6_walks_122 : decode cX6_walks 122 = .ok (.iinc 1 1, 3) := by decide +kernel
theorem dX6_walks_125 : decode cX6_walks 125 = .ok (.goto (-92), 3) := by decide +kernel
theorem dX6_walks_128 : decode cX6_walks 128 = .ok (.return_, 1) := by decide +kernel
theorem dX6_path_0 : decode cX6_path 0 = .ok (.aload_n 0, 1) := by decide +kernel
theorem dX6_path_1 : decode cX6_path 1 = .ok (.iload_n 1, 1) := by decide +kernel
theorem dX6_path_2 : decode cX6_path 2 = .ok (.i2l, 1) := by decide +kernel
theorem dX6_path_3 : decode cX6_path 3 = .ok (.invokevirtual 128, 3) := by decide +kernel
theorem dX6_path_6 : decode cX6_path 6 = .ok (.ifCond .ne 10, 3) := by decide +kernel
theorem dX6_path_9 : decode cX6_path 9 = .ok (.aload_n 0, 1) := by decide +kernel
theorem dX6_path_10 : decode cX6_path 10 = .ok (.bipush (-2), 2) := by decide +kernel
theorem dX6_path_12 : decode cX6_path 12 = .ok (.invokevirtual 83, 3) := by decide +kernel
theorem dX6_path_15 : decode cX6_path 15 = .ok (.ireturn, 1) := by decide +kernel
theorem dX6_path_16 : decode cX6_path 16 = .ok (.aload_n 0, 1) := by decide +kernel
theorem dX6_path_17 : decode cX6_path 17 = .ok (.invokevirtual 281, 3) := by decide +kernel
theorem dX6_path_20 : decode cX6_path 20 = .ok (.aload_n 0, 1) := by decide +kernel
theorem dX6_path_21 : decode cX6_path 21 = .ok (.getfield 54, 3) := by decide +kernel
theorem dX6_path_24 : decode cX6_path 24 = .ok (.iload_n 1, 1) := by decide +kernel
theorem dX6_path_25 : decode cX6_path 25 = .ok (.iaload, 1) := by decide +kernel
theorem dX6_path_26 : decode cX6_path 26 = .ok (.iconst 1, 1) := by decide +kernel
theorem dX6_path_27 : decode cX6_path 27 = .ok (.isub, 1) := by decide +kernel
theorem dX6_path_28 : decode cX6_path 28 = .ok (.ireturn, 1) := by decide +kernel
theorem dX6_reach_0 : decode cX6_reach 0 = .ok (.iload_n 1, 1) := by decide +kernel
theorem dX6_reach_1 : decode cX6_reach 1 = .ok (.iconst 0, 1) := by decide +kernel
theorem dX6_reach_2 : decode cX6_reach 2 = .ok (.bipush 99, 2) := by decide +kernel
theorem dX6_reach_4 : decode cX6_reach 4 = .ok (.invokestatic 75, 3) := by decide +kernel
theorem dX6_reach_7 : decode cX6_reach 7 = .ok (.ifCond .ne 10, 3) := by decide +kernel
theorem dX6_reach_10 : decode cX6_reach 10 = .ok (.aload_n 0, 1) := by decide +kernel
theorem dX6_reach_11 : decode cX6_reach 11 = .ok (.bipush (-2), 2) := by decide +kernel
theorem dX6_reach_13 : decode cX6_reach 13 = .ok (.invokevirtual 83, 3) := by decide +kernel
theorem dX6_reach_16 : decode cX6_reach 16 = .ok (.ireturn, 1) := by decide +kernel
theorem dX6_reach_17 : decode cX6_reach 17 = .ok (.aload_n 0, 1) := by decide +kernel
theorem dX6_reach_18 : decode cX6_reach 18 = .ok (.invokevirtual 281, 3) := by decide +kernel
theorem dX6_reach_21 : decode cX6_reach 21 = .ok (.iconst 0, 1) := by decide +kernel
theorem dX6_reach_22 : decode cX6_reach 22 = .ok (.istore_n 2, 1) := by decide +kernel
theorem dX6_reach_23 : decode cX6_reach 23 = .ok (.iconst 0, 1) := by decide +kernel
theorem dX6_reach_24 : decode cX6_reach 24 = .ok (.istore_n 3, 1) := by decide +kernel
theorem dX6_reach_25 : decode cX6_reach 25 = .ok (.iload_n 3, 1) := by decide +kernel
theorem dX6_reach_26 : decode cX6_reach 26 = .ok (.bipush 67, 2) := by decide +kernel
theorem dX6_reach_28 : decode cX6_reach 28 = .ok (.if_icmp .ge 33, 3) := by decide +kernel
theorem dX6_reach_31 : decode cX6_reach 31 = .ok (.aload_n 0, 1) := by decide +kernel
theorem dX6_reach_32 : decode cX6_reach 32 = .ok (.getfield 54, 3) := by decide +kernel
theorem dX6_reach_35 : decode cX6_reach 35 = .ok (.iload_n 3, 1) := by decide +kernel
theorem dX6_reach_36 : decode cX6_reach 36 = .ok (.iaload, 1) := by decide +kernel
theorem dX6_reach_37 : decode cX6_reach 37 = .ok (.ifCond .le 18, 3) := by decide +kernel
theorem dX6_reach_40 : decode cX6_reach 40 = .ok (.aload_n 0, 1) := by decide +kernel
theorem dX6_reach_41 : decode cX6_reach 41 = .ok (.getfield 54, 3) := by decide +kernel
theorem dX6_reach_44 : decode cX6_reach 44 = .ok (.iload_n 3, 1) := by decide +kernel
theorem dX6_reach_45 : decode cX6_reach 45 = .ok (.iaload, 1) := by decide +kernel
theorem dX6_reach_46 : decode cX6_reach 46 = .ok (.iconst 1, 1) := by decide +kernel
theorem dX6_reach_47 : decode cX6_reach 47 = .ok (.isub, 1) := by decide +kernel
theorem dX6_reach_48 : decode cX6_reach 48 = .ok (.iload_n 1, 1) := by decide +kernel
theorem dX6_reach_49 : decode cX6_reach 49 = .ok (.if_icmp .gt 6, 3) := by decide +kernel
theorem dX6_reach_52 : decode cX6_reach 52 = .ok (.iinc 2 1, 3) := by decide +kernel
theorem dX6_reach_55 : decode cX6_reach 55 = .ok (.iinc 3 1, 3) := by decide +kernel
theorem dX6_reach_58 : decode cX6_reach 58 = .ok (.goto (-33), 3) := by decide +kernel
theorem dX6_reach_61 : decode cX6_reach 61 = .ok (.iload_n 2, 1) := by decide +kernel
theorem dX6_reach_62 : decode cX6_reach 62 = .ok (.ireturn, 1) := by decide +kernel
theorem dX6_rows_0 : decode cX6_rows 0 = .ok (.iload_n 1, 1) := by decide +kernel
theorem dX6_rows_1 : decode cX6_rows 1 = .ok (.ifCond .ne 5, 3) := by decide +kernel
theorem dX6_rows_4 : decode cX6_rows 4 = .ok (.iconst 1, 1) := by decide +kernel
theorem dX6_rows_5 : decode cX6_rows 5 = .ok (.ireturn, 1) := by decide +kernel
theorem dX6_rows_6 : decode cX6_rows 6 = .ok (.aload_n 0, 1) := by decide +kernel
theorem dX6_rows_7 : decode cX6_rows 7 = .ok (.getfield 61, 3) := by decide +kernel
theorem dX6_rows_10 : decode cX6_rows 10 = .ok (.istore_n 2, 1) := by decide +kernel
theorem dX6_rows_11 : decode cX6_rows 11 = .ok (.iconst 0, 1) := by decide +kernel
theorem dX6_rows_12 : decode cX6_rows 12 = .ok (.istore_n 3, 1) := by decide +kernel
theorem dX6_rows_13 : decode cX6_rows 13 = .ok (.iconst 0, 1) := by decide +kernel
theorem dX6_rows_14 : decode cX6_rows 14 = .ok (.istore 4, 2) := by decide +kernel
theorem dX6_rows_16 : decode cX6_rows 16 = .ok (.iload 4, 2) := by decide +kernel
theorem dX6_rows_18 : decode cX6_rows 18 = .ok (.iconst 5, 1) := by decide +kernel
theorem dX6_rows_19 : decode cX6_rows 19 = .ok (.if_icmp .ge 47, 3) := by decide +kernel
theorem dX6_rows_22 : decode cX6_rows 22 = .ok (.aload_n 0, 1) := by decide +kernel
theorem dX6_rows_23 : decode cX6_rows 23 = .ok (.iload 4, 2) := by decide +kernel
theorem dX6_rows_25 : decode cX6_rows 25 = .ok (.invokevirtual 232, 3) := by decide +kernel
theorem dX6_rows_28 : decode cX6_rows 28 = .ok (.ifCond .ne 6, 3) := by decide +kernel
theorem dX6_rows_31 : decode cX6_rows 31 = .ok (.goto 29, 3) := by decide +kernel
theorem dX6_rows_34 : decode cX6_rows 34 = .ok (.aload_n 0, 1) := by decide +kernel
theorem dX6_rows_35 : decode cX6_rows 35 = .ok (.aload_n 0, 1) := by decide +kernel
theorem dX6_rows_36 : decode cX6_rows 36 = .ok (.iload_n 2, 1) := by decide +kernel
theorem dX6_rows_37 : decode cX6_rows 37 = .ok (.iload 4, 2) := by decide +kernel
theorem dX6_rows_39 : decode cX6_rows 39 = .ok (.invokevirtual 218, 3) := by decide +kernel
theorem dX6_rows_42 : decode cX6_rows 42 = .ok (.putfield 61, 3) := by decide +kernel
theorem dX6_rows_45 : decode cX6_rows 45 = .ok (.iload_n 3, 1) := by decide +kernel
theorem dX6_rows_46 : decode cX6_rows 46 = .ok (.aload_n 0, 1) := by decide +kernel
theorem dX6_rows_47 : decode cX6_rows 47 = .ok (.iload_n 1, 1) := by decide +kernel
theorem dX6_rows_48 : decode cX6_rows 48 = .ok (.iconst 1, 1) := by decide +kernel
theorem dX6_rows_49 : decode cX6_rows 49 = .ok (.isub, 1) := by decide +kernel
theorem dX6_rows_50 : decode cX6_rows 50 = .ok (.invokevirtual 284, 3) := by decide +kernel
theorem dX6_rows_53 : decode cX6_rows 53 = .ok (.iadd, 1) := by decide +kernel
theorem dX6_rows_54 : decode cX6_rows 54 = .ok (.istore_n 3, 1) := by decide +kernel
theorem dX6_rows_55 : decode cX6_rows 55 = .ok (.aload_n 0, 1) := by decide +kernel
theorem dX6_rows_56 : decode cX6_rows 56 = .ok (.iload_n 2, 1) := by decide +kernel
theorem dX6_rows_57 : decode cX6_rows 57 = .ok (.putfield 61, 3) := by decide +kernel
theorem dX6_rows_60 : decode cX6_rows 60 = .ok (.iinc 4 1, 3) := by decide +kernel
theorem dX6_rows_63 : decode cX6_rows 63 = .ok (.goto (-47), 3) := by decide +kernel
theorem dX6_rows_66 : decode cX6_rows 66 = .ok (.iload_n 3, 1) := by decide +kernel
theorem dX6_rows_67 : decode cX6_rows 67 = .ok (.ireturn, 1) := by decide +kernel
theorem dX6_ways_0 : decode cX6_ways 0 = .ok (.iload_n 1, 1) := by decide +kernel
theorem dX6_ways_1 : decode cX6_ways 1 = .ok (.iconst 0, 1) := by decide +kernel
theorem dX6_ways_2 : decode cX6_ways 2 = .ok (.bipush 6, 2) := by decide +kernel
theorem dX6_ways_4 : decode cX6_ways 4 = .ok (.invokestatic 75, 3) := by decide +kernel
theorem dX6_ways_7 : decode cX6_ways 7 = .ok (.ifCond .eq 11, 3) := by decide +kernel
theorem dX6_ways_10 : decode cX6_ways 10 = .ok (.aload_n 0, 1) := by decide +kernel
theorem dX6_ways_11 : decode cX6_ways 11 = .ok (.iload_n 1, 1) := by decide +kernel
theorem dX6_ways_12 : decode cX6_ways 12 = .ok (.invokevirtual 284, 3) := by decide +kernel
theorem dX6_ways_15 : decode cX6_ways 15 = .ok (.goto 9, 3) := by decide +kernel
theorem dX6_ways_18 : decode cX6_ways 18 = .ok (.aload_n 0, 1) := by decide +kernel
theorem dX6_ways_19 : decode cX6_ways 19 = .ok (.bipush (-2), 2) := by decide +kernel
theorem dX6_ways_21 : decode cX6_ways 21 = .ok (.invokevirtual 83, 3) := by decide +kernel
theorem dX6_ways_24 : decode cX6_ways 24 = .ok (.ireturn, 1) := by decide +kernel
theorem dX6_open_0 : decode cX6_open 0 = .ok (.aload_n 0, 1) := by decide +kernel
theorem dX6_open_1 : decode cX6_open 1 = .ok (.iload_n 1, 1) := by decide +kernel
theorem dX6_open_2 : decode cX6_open 2 = .ok (.i2l, 1) := by decide +kernel
theorem dX6_open_3 : decode cX6_open 3 = .ok (.invokevirtual 128, 3) := by decide +kernel
theorem dX6_open_6 : decode cX6_open 6 = .ok (.ifCond .ne 10, 3) := by decide +kernel
theorem dX6_open_9 : decode cX6_open 9 = .ok (.aload_n 0, 1) := by decide +kernel
theorem dX6_open_10 : decode cX6_open 10 = .ok (.bipush (-2), 2) := by decide +kernel
theorem dX6_open_12 : decode cX6_open 12 = .ok (.invokevirtual 83, 3) := by decide +kernel
theorem dX6_open_15 : decode cX6_open 15 = .ok (.ireturn, 1) := by decide +kernel
theorem dX6_open_16 : decode cX6_open 16 = .ok (.iconst 0, 1) := by decide +kernel
theorem dX6_open_17 : decode cX6_open 17 = .ok (.istore_n 2, 1) := by decide +kernel
theorem dX6_open_18 : decode cX6_open 18 = .ok (.iconst 1, 1) := by decide +kernel
theorem dX6_open_19 : decode cX6_open 19 = .ok (.istore_n 3, 1) := by decide +kernel
theorem dX6_open_20 : decode cX6_open 20 = .ok (.iload_n 3, 1) := by decide +kernel
theorem dX6_open_21 : decode cX6_open 21 = .ok (.iconst 5, 1) := by decide +kernel
theorem dX6_open_22 : decode cX6_open 22 = .ok (.if_icmp .ge 22, 3) := by decide +kernel
theorem dX6_open_25 : decode cX6_open 25 = .ok (.aload_n 0, 1) := by decide +kernel
theorem dX6_open_26 : decode cX6_open 26 = .ok (.iload_n 1, 1) := by decide +kernel
theorem dX6_open_27 : decode cX6_open 27 = .ok (.iload_n 3, 1) := by decide +kernel
theorem dX6_open_28 : decode cX6_open 28 = .ok (.invokevirtual 218, 3) := by decide +kernel
theorem dX6_open_31 : decode cX6_open 31 = .ok (.iconst (-1), 1) := by decide +kernel
theorem dX6_open_32 : decode cX6_open 32 = .ok (.if_icmp .eq 6, 3) := by decide +kernel
theorem dX6_open_35 : decode cX6_open 35 = .ok (.iinc 2 1, 3) := by decide +kernel
theorem dX6_open_38 : decode cX6_open 38 = .ok (.iinc 3 1, 3) := by decide +kernel
theorem dX6_open_41 : decode cX6_open 41 = .ok (.goto (-21), 3) := by decide +kernel
theorem dX6_open_44 : decode cX6_open 44 = .ok (.iload_n 2, 1) := by decide +kernel
theorem dX6_open_45 : decode cX6_open 45 = .ok (.ireturn, 1) := by decide +kernel
theorem dX6_still_0 : decode cX6_still 0 = .ok (.iload_n 1, 1) := by decide +kernel
theorem dX6_still_1 : decode cX6_still 1 = .ok (.iconst 0, 1) := by decide +kernel
theorem dX6_still_2 : decode cX6_still 2 = .ok (.iconst 1, 1) := by decide +kernel
theorem dX6_still_3 : decode cX6_still 3 = .ok (.invokestatic 75, 3) := by decide +kernel
theorem dX6_still_6 : decode cX6_still 6 = .ok (.ifCond .ne 10, 3) := by decide +kernel
theorem dX6_still_9 : decode cX6_still 9 = .ok (.aload_n 0, 1) := by decide +kernel
theorem dX6_still_10 : decode cX6_still 10 = .ok (.bipush (-2), 2) := by decide +kernel
theorem dX6_still_12 : decode cX6_still 12 = .ok (.invokevirtual 83, 3) := by decide +kernel
theorem dX6_still_15 : decode cX6_still 15 = .ok (.ireturn, 1) := by decide +kernel
theorem dX6_still_16 : decode cX6_still 16 = .ok (.aload_n 0, 1) := by decide +kernel
theorem dX6_still_17 : decode cX6_still 17 = .ok (.getfield 61, 3) := by decide +kernel
theorem dX6_still_20 : decode cX6_still 20 = .ok (.istore_n 2, 1) := by decide +kernel
theorem dX6_still_21 : decode cX6_still 21 = .ok (.iconst 0, 1) := by decide +kernel
theorem dX6_still_22 : decode cX6_still 22 = .ok (.istore_n 3, 1) := by decide +kernel
theorem dX6_still_23 : decode cX6_still 23 = .ok (.iconst 0, 1) := by decide +kernel
theorem dX6_still_24 : decode cX6_still 24 = .ok (.istore 4, 2) := by decide +kernel
theorem dX6_still_26 : decode cX6_still 26 = .ok (.iconst 0, 1) := by decide +kernel
theorem dX6_still_27 : decode cX6_still 27 = .ok (.istore 5, 2) := by decide +kernel
theorem dX6_still_29 : decode cX6_still 29 = .ok (.iload 5, 2) := by decide +kernel
theorem dX6_still_31 : decode cX6_still 31 = .ok (.bipush 67, 2) := by decide +kernel
theorem dX6_still_33 : decode cX6_still 33 = .ok (.if_icmp .ge 63, 3) := by decide +kernel
theorem dX6_still_36 : decode cX6_still 36 = .ok (.aload_n 0, 1) := by decide +kernel
theorem dX6_still_37 : decode cX6_still 37 = .ok (.iload 5, 2) := by decide +kernel
theorem dX6_still_39 : decode cX6_still 39 = .ok (.i2l, 1) := by decide +kernel
theorem dX6_still_40 : decode cX6_still 40 = .ok (.invokevirtual 128, 3) := by decide +kernel
theorem dX6_still_43 : decode cX6_still 43 = .ok (.ifCond .eq 47, 3) := by decide +kernel
theorem dX6_still_46 : decode cX6_still 46 = .ok (.aload_n 0, 1) := by decide +kernel
theorem dX6_still_47 : decode cX6_still 47 = .ok (.iload 5, 2) := by decide +kernel
theorem dX6_still_49 : decode cX6_still 49 = .ok (.invokevirtual 142, 3) := by decide +kernel
theorem dX6_still_52 : decode cX6_still 52 = .ok (.ifCond .ne 6, 3) := by decide +kernel
theorem dX6_still_55 : decode cX6_still 55 = .ok (.goto 35, 3) := by decide +kernel
theorem dX6_still_58 : decode cX6_still 58 = .ok (.aload_n 0, 1) := by decide +kernel
theorem dX6_still_59 : decode cX6_still 59 = .ok (.iload 5, 2) := by decide +kernel
theorem dX6_still_61 : decode cX6_still 61 = .ok (.putfield 61, 3) := by decide +kernel
theorem dX6_still_64 : decode cX6_still 64 = .ok (.aload_n 0, 1) := by decide +kernel
theorem dX6_still_65 : decode cX6_still 65 = .ok (.invokevirtual 278, 3) := by decide +kernel
theorem dX6_still_68 : decode cX6_still 68 = .ok (.invokestatic 287, 3) := by decide +kernel
theorem dX6_still_71 : decode cX6_still 71 = .ok (.istore 6, 2) := by decide +kernel
theorem dX6_still_73 : decode cX6_still 73 = .ok (.iload 6, 2) := by decide +kernel
theorem dX6_still_75 : decode cX6_still 75 = .ok (.ifCond .ne 6, 3) := by decide +kernel
theorem dX6_still_78 : decode cX6_still 78 = .ok (.iinc 3 1, 3) := by decide +kernel
theorem dX6_still_81 : decode cX6_still 81 = .ok (.iload 4, 2) := by decide +kernel
theorem dX6_still_83 : decode cX6_still 83 = .ok (.iload 6, 2) := by decide +kernel
theorem dX6_still_85 : decode cX6_still 85 = .ok (.invokestatic 266, 3) := by decide +kernel
theorem dX6_still_88 : decode cX6_still 88 = .ok (.istore 4, 2) := by decide +kernel
theorem dX6_still_90 : decode cX6_still 90 = .ok (.iinc 5 1, 3) := by decide +kernel
theorem dX6_still_93 : decode cX6_still 93 = .ok (.goto (-64), 3) := by decide +kernel
theorem dX6_still_96 : decode cX6_still 96 = .ok (.aload_n 0, 1) := by decide +kernel
theorem dX6_still_97 : decode cX6_still 97 = .ok (.iload_n 2, 1) := by decide +kernel
theorem dX6_still_98 : decode cX6_still 98 = .ok (.putfield 61, 3) := by decide +kernel
theorem dX6_still_101 : decode cX6_still 101 = .ok (.iload_n 1, 1) := by decide +kernel
theorem dX6_still_102 : decode cX6_still 102 = .ok (.ifCond .ne 7, 3) := by decide +kernel
theorem dX6_still_105 : decode cX6_still 105 = .ok (.iload_n 3, 1) := by decide +kernel
theorem dX6_still_106 : decode cX6_still 106 = .ok (.goto 5, 3) := by decide +kernel
theorem dX6_still_109 : decode cX6_still 109 = .ok (.iload 4, 2) := by decide +kernel
theorem dX6_still_111 : decode cX6_still 111 = .ok (.ireturn, 1) := by decide +kernel
theorem dX6_held_0 : decode cX6_held 0 = .ok (.aload_n 0, 1) := by decide +kernel
theorem dX6_held_1 : decode cX6_held 1 = .ok (.invokevirtual 278, 3) := by decide +kernel
theorem dX6_held_4 : decode cX6_held 4 = .ok (.istore_n 1, 1) := by decide +kernel
theorem dX6_held_5 : decode cX6_held 5 = .ok (.iconst 0, 1) := by decide +kernel
theorem dX6_held_6 : decode cX6_held 6 = .ok (.istore_n 2, 1) := by decide +kernel
theorem dX6_held_7 : decode cX6_held 7 = .ok (.iconst 0, 1) := by decide +kernel
theorem dX6_held_8 : decode cX6_held 8 = .ok (.istore_n 3, 1) := by decide +kernel
theorem dX6_held_9 : decode cX6_held 9 = .ok (.iload_n 3, 1) := by decide +kernel
theorem dX6_held_10 : decode cX6_held 10 = .ok (.aload_n 0, 1) := by decide +kernel
theorem dX6_held_11 : decode cX6_held 11 = .ok (.getfield 72, 3) := by decide +kernel
theorem dX6_held_14 : decode cX6_held 14 = .ok (.if_icmp .ge 48, 3) := by decide +kernel
theorem dX6_held_17 : decode cX6_held 17 = .ok (.aload_n 0, 1) := by decide +kernel
theorem dX6_held_18 : decode cX6_held 18 = .ok (.iload_n 3, 1) := by decide +kernel
theorem dX6_held_19 : decode cX6_held 19 = .ok (.invokevirtual 122, 3) := by decide +kernel
theorem dX6_held_22 : decode cX6_held 22 = .ok (.ifCond .ne 34, 3) := by decide +kernel
theorem dX6_held_25 : decode cX6_held 25 = .ok (.aload_n 0, 1) := by decide +kernel
theorem dX6_held_26 : decode cX6_held 26 = .ok (.getfield 20, 3) := by decide +kernel
theorem dX6_held_29 : decode cX6_held 29 = .ok (.iload_n 3, 1) := by decide +kernel
theorem dX6_held_30 : decode cX6_held 30 = .ok (.iaload, 1) := by decide +kernel
theorem dX6_held_31 : decode cX6_held 31 = .ok (.aload_n 0, 1) := by decide +kernel
theorem dX6_held_32 : decode cX6_held 32 = .ok (.getfield 61, 3) := by decide +kernel
theorem dX6_held_35 : decode cX6_held 35 = .ok (.invokestatic 215, 3) := by decide +kernel
theorem dX6_held_38 : decode cX6_held 38 = .ok (.iconst 4, 1) := by decide +kernel
theorem dX6_held_39 : decode cX6_held 39 = .ok (.if_icmp .ge 17, 3) := by decide +kernel
theorem dX6_held_42 : decode cX6_held 42 = .ok (.iload_n 1, 1) := by decide +kernel
theorem dX6_held_43 : decode cX6_held 43 = .ok (.iload_n 3, 1) := by decide +kernel
theorem dX6_held_44 : decode cX6_held 44 = .ok (.ishr, 1) := by decide +kernel
theorem dX6_held_45 : decode cX6_held 45 = .ok (.iconst 1, 1) := by decide +kernel
theorem dX6_held_46 : decode cX6_held 46 = .ok (.iand, 1) := by decide +kernel
theorem dX6_held_47 : decode cX6_held 47 = .ok (.ifCond .ne 9, 3) := by decide +kernel
theorem dX6_held_50 : decode cX6_held 50 = .ok (.iload_n 2, 1) := by decide +kernel
theorem dX6_held_51 : decode cX6_held 51 = .ok (.iconst 1, 1) := by decide +kernel
theorem dX6_held_52 : decode cX6_held 52 = .ok (.iload_n 3, 1) := by decide +kernel
theorem dX6_held_53 : decode cX6_held 53 = .ok (.ishl, 1) := by decide +kernel
theorem dX6_held_54 : decode cX6_held 54 = .ok (.ior, 1) := by decide +kernel
theorem dX6_held_55 : decode cX6_held 55 = .ok (.istore_n 2, 1) := by decide +kernel
theorem dX6_held_56 : decode cX6_held 56 = .ok (.iinc 3 1, 3) := by decide +kernel
theorem dX6_held_59 : decode cX6_held 59 = .ok (.goto (-50), 3) := by decide +kernel
theorem dX6_held_62 : decode cX6_held 62 = .ok (.iload_n 2, 1) := by decide +kernel
theorem dX6_held_63 : decode cX6_held 63 = .ok (.ireturn, 1) := by decide +kernel
theorem dX6_grazing_0 : decode cX6_grazing 0 = .ok (.iconst 0, 1) := by decide +kernel
theorem dX6_grazing_1 : decode cX6_grazing 1 = .ok (.istore_n 1, 1) := by decide +kernel
theorem dX6_grazing_2 : decode cX6_grazing 2 = .ok (.iconst 0, 1) := by decide +kernel
theorem dX6_grazing_3 : decode cX6_grazing 3 = .ok (.istore_n 2, 1) := by decide +kernel
theorem dX6_grazing_4 : decode cX6_grazing 4 = .ok (.iload_n 2, 1) := by decide +kernel
theorem dX6_grazing_5 : decode cX6_grazing 5 = .ok (.aload_n 0, 1) := by decide +kernel
theorem dX6_grazing_6 : decode cX6_grazing 6 = .ok (.getfield 72, 3) := by decide +kernel
theorem dX6_grazing_9 : decode cX6_grazing 9 = .ok (.if_icmp .ge 40, 3) := by decide +kernel
theorem dX6_grazing_12 : decode cX6_grazing 12 = .ok (.aload_n 0, 1) := by decide +kernel
theorem dX6_grazing_13 : decode cX6_grazing 13 = .ok (.iload_n 2, 1) := by decide +kernel
theorem dX6_grazing_14 : decode cX6_grazing 14 = .ok (.invokevirtual 122, 3) := by decide +kernel
theorem dX6_grazing_17 : decode cX6_grazing 17 = .ok (.ifCond .ne 26, 3) := by decide +kernel
theorem dX6_grazing_20 : decode cX6_grazing 20 = .ok (.aload_n 0, 1) := by decide +kernel
theorem dX6_grazing_21 : decode cX6_grazing 21 = .ok (.getfield 20, 3) := by decide +kernel
theorem dX6_grazing_24 : decode cX6_grazing 24 = .ok (.iload_n 2, 1) := by decide +kernel
theorem dX6_grazing_25 : decode cX6_grazing 25 = .ok (.iaload, 1) := by decide +kernel
theorem dX6_grazing_26 : decode cX6_grazing 26 = .ok (.aload_n 0, 1) := by decide +kernel
theorem dX6_grazing_27 : decode cX6_grazing 27 = .ok (.getfield 61, 3) := by decide +kernel
theorem dX6_grazing_30 : decode cX6_grazing 30 = .ok (.invokestatic 215, 3) := by decide +kernel
theorem dX6_grazing_33 : decode cX6_grazing 33 = .ok (.iconst 3, 1) := by decide +kernel
theorem dX6_grazing_34 : decode cX6_grazing 34 = .ok (.if_icmp .le 9, 3) := by decide +kernel
theorem dX6_grazing_37 : decode cX6_grazing 37 = .ok (.iload_n 1, 1) := by decide +kernel
theorem dX6_grazing_38 : decode cX6_grazing 38 = .ok (.iconst 1, 1) := by decide +kernel
theorem dX6_grazing_39 : decode cX6_grazing 39 = .ok (.iload_n 2, 1) := by decide +kernel
theorem dX6_grazing_40 : decode cX6_grazing 40 = .ok (.ishl, 1) := by decide +kernel
theorem dX6_grazing_41 : decode cX6_grazing 41 = .ok (.ior, 1) := by decide +kernel
theorem dX6_grazing_42 : decode cX6_grazing 42 = .ok (.istore_n 1, 1) := by decide +kernel
theorem dX6_grazing_43 : decode cX6_grazing 43 = .ok (.iinc 2 1, 3) := by decide +kernel
theorem dX6_grazing_46 : decode cX6_grazing 46 = .ok (.goto (-42), 3) := by decide +kernel
theorem dX6_grazing_49 : decode cX6_grazing 49 = .ok (.iload_n 1, 1) := by decide +kernel
theorem dX6_grazing_50 : decode cX6_grazing 50 = .ok (.ireturn, 1) := by decide +kernel
theorem dX6_shy_0 : decode cX6_shy 0 = .ok (.aload_n 0, 1) := by decide +kernel
theorem dX6_shy_1 : decode cX6_shy 1 = .ok (.iload_n 1, 1) := by decide +kernel
theorem dX6_shy_2 : decode cX6_shy 2 = .ok (.invokevirtual 97, 3) := by decide +kernel
theorem dX6_shy_5 : decode cX6_shy 5 = .ok (.ifCond .ne 10, 3) := by decide +kernel
theorem dX6_shy_8 : decode cX6_shy 8 = .ok (.aload_n 0, 1) := by decide +kernel
theorem dX6_shy_9 : decode cX6_shy 9 = .ok (.bipush (-2), 2) := by decide +kernel
theorem dX6_shy_11 : decode cX6_shy 11 = .ok (.invokevirtual 83, 3) := by decide +kernel
theorem dX6_shy_14 : decode cX6_shy 14 = .ok (.ireturn, 1) := by decide +kernel
theorem dX6_shy_15 : decode cX6_shy 15 = .ok (.iconst (-1), 1) := by decide +kernel
theorem dX6_shy_16 : decode cX6_shy 16 = .ok (.istore_n 2, 1) := by decide +kernel
theorem dX6_shy_17 : decode cX6_shy 17 = .ok (.aload_n 0, 1) := by decide +kernel
theorem dX6_shy_18 : decode cX6_shy 18 = .ok (.iconst 0, 1) := by decide +kernel
theorem dX6_shy_19 : decode cX6_shy 19 = .ok (.invokevirtual 104, 3) := by decide +kernel
theorem dX6_shy_22 : decode cX6_shy 22 = .ok (.iconst 0, 1) := by decide +kernel
theorem dX6_shy_23 : decode cX6_shy 23 = .ok (.istore_n 3, 1) := by decide +kernel
theorem dX6_shy_24 : decode cX6_shy 24 = .ok (.iload_n 3, 1) := by decide +kernel
theorem dX6_shy_25 : decode cX6_shy 25 = .ok (.bipush 67, 2) := by decide +kernel
theorem dX6_shy_27 : decode cX6_shy 27 = .ok (.if_icmp .ge 78, 3) := by decide +kernel
theorem dX6_shy_30 : decode cX6_shy 30 = .ok (.aload_n 0, 1) := by decide +kernel
theorem dX6_shy_31 : decode cX6_shy 31 = .ok (.iload_n 3, 1) := by decide +kernel
theorem dX6_shy_32 : decode cX6_shy 32 = .ok (.i2l, 1) := by decide +kernel
theorem dX6_shy_33 : decode cX6_shy 33 = .ok (.invokevirtual 128, 3) := by decide +kernel
theorem dX6_shy_36 : decode cX6_shy 36 = .ok (.ifCond .eq 63, 3) := by decide +kernel
theorem dX6_shy_39 : decode cX6_shy 39 = .ok (.aload_n 0, 1) := by decide +kernel
theorem dX6_shy_40 : decode cX6_shy 40 = .ok (.iload_n 3, 1) := by decide +kernel
theorem dX6_shy_41 : decode cX6_shy 41 = .ok (.invokevirtual 142, 3) := by decide +kernel
theorem dX6_shy_44 : decode cX6_shy 44 = .ok (.ifCond .ne 6, 3) := by decide +kernel
theorem dX6_shy_47 : decode cX6_shy 47 = .ok (.goto 52, 3) := by decide +kernel
theorem dX6_shy_50 : decode cX6_shy 50 = .ok (.aload_n 0, 1) := by decide +kernel
theorem dX6_shy_51 : decode cX6_shy 51 = .ok (.iload_n 3, 1) := by decide +kernel
theorem dX6_shy_52 : decode cX6_shy 52 = .ok (.putfield 61, 3) := by decide +kernel
theorem dX6_shy_55 : decode cX6_shy 55 = .ok (.aload_n 0, 1) := by decide +kernel
theorem dX6_shy_56 : decode cX6_shy 56 = .ok (.iload_n 1, 1) := by decide +kernel
theorem dX6_shy_57 : decode cX6_shy 57 = .ok (.invokevirtual 108, 3) := by decide +kernel
theorem dX6_shy_60 : decode cX6_shy 60 = .ok (.aload_n 0, 1) := by decide +kernel
theorem dX6_shy_61 : decode cX6_shy 61 = .ok (.getfield 20, 3) := by decide +kernel
theorem dX6_shy_64 : decode cX6_shy 64 = .ok (.iload_n 1, 1) := by decide +kernel
theorem dX6_shy_65 : decode cX6_shy 65 = .ok (.iaload, 1) := by decide +kernel
theorem dX6_shy_66 : decode cX6_shy 66 = .ok (.aload_n 0, 1) := by decide +kernel
theorem dX6_shy_67 : decode cX6_shy 67 = .ok (.getfield 45, 3) := by decide +kernel
theorem dX6_shy_70 : decode cX6_shy 70 = .ok (.iconst 2, 1) := by decide +kernel
theorem dX6_shy_71 : decode cX6_shy 71 = .ok (.iload_n 1, 1) := by decide +kernel
theorem dX6_shy_72 : decode cX6_shy 72 = .ok (.iadd, 1) := by decide +kernel
theorem dX6_shy_73 : decode cX6_shy 73 = .ok (.iaload, 1) := by decide +kernel
theorem dX6_shy_74 : decode cX6_shy 74 = .ok (.if_icmp .eq 20, 3) := by decide +kernel
theorem dX6_shy_77 : decode cX6_shy 77 = .ok (.iload_n 2, 1) := by decide +kernel
theorem dX6_shy_78 : decode cX6_shy 78 = .ok (.aload_n 0, 1) := by decide +kernel
theorem dX6_shy_79 : decode cX6_shy 79 = .ok (.getfield 45, 3) := by decide +kernel
theorem dX6_shy_82 : decode cX6_shy 82 = .ok (.iconst 2, 1) := by decide +kernel
theorem dX6_shy_83 : decode cX6_shy 83 = .ok (.iload_n 1, 1) := by decide +kernel
theorem dX6_shy_84 : decode cX6_shy 84 = .ok (.iadd, 1) := by decide +kernel
theorem dX6_shy_85 : decode cX6_shy 85 = .ok (.iaload, 1) := by decide +kernel
theorem dX6_shy_86 : decode cX6_shy 86 = .ok (.iload_n 3, 1) := by decide +kernel
theorem dX6_shy_87 : decode cX6_shy 87 = .ok (.invokestatic 215, 3) := by decide +kernel
theorem dX6_shy_90 : decode cX6_shy 90 = .ok (.invokestatic 266, 3) := by decide +kernel
theorem dX6_shy_93 : decode cX6_shy 93 = .ok (.istore_n 2, 1) := by decide +kernel
theorem dX6_shy_94 : decode cX6_shy 94 = .ok (.aload_n 0, 1) := by decide +kernel
theorem dX6_shy_95 : decode cX6_shy 95 = .ok (.iconst 0, 1) := by decide +kernel
theorem dX6_shy_96 : decode cX6_shy 96 = .ok (.invokevirtual 111, 3) := by decide +kernel
theorem dX6_shy_99 : decode cX6_shy 99 = .ok (.iinc 3 1, 3) := by decide +kernel
theorem dX6_shy_102 : decode cX6_shy 102 = .ok (.goto (-78), 3) := by decide +kernel
theorem dX6_shy_105 : decode cX6_shy 105 = .ok (.iload_n 2, 1) := by decide +kernel
theorem dX6_shy_106 : decode cX6_shy 106 = .ok (.ireturn, 1) := by decide +kernel
theorem dX6_bare_0 : decode cX6_bare 0 = .ok (.iconst 0, 1) := by decide +kernel
theorem dX6_bare_1 : decode cX6_bare 1 = .ok (.istore_n 1, 1) := by decide +kernel
theorem dX6_bare_2 : decode cX6_bare 2 = .ok (.iconst 0, 1) := by decide +kernel
theorem dX6_bare_3 : decode cX6_bare 3 = .ok (.istore_n 2, 1) := by decide +kernel
theorem dX6_bare_4 : decode cX6_bare 4 = .ok (.iload_n 2, 1) := by decide +kernel
theorem dX6_bare_5 : decode cX6_bare 5 = .ok (.aload_n 0, 1) := by decide +kernel
theorem dX6_bare_6 : decode cX6_bare 6 = .ok (.getfield 57, 3) := by decide +kernel
theorem dX6_bare_9 : decode cX6_bare 9 = .ok (.if_icmp .ge 119, 3) := by decide +kernel
theorem dX6_bare_12 : decode cX6_bare 12 = .ok (.iconst 1, 1) := by decide +kernel
theorem dX6_bare_13 : decode cX6_bare 13 = .ok (.istore_n 3, 1) := by decide +kernel
theorem dX6_bare_14 : decode cX6_bare 14 = .ok (.iconst 1, 1) := by decide +kernel
theorem dX6_bare_15 : decode cX6_bare 15 = .ok (.istore 4, 2) := by decide +kernel
theorem dX6_bare_17 : decode cX6_bare 17 = .ok (.iconst 0, 1) := by decide +kernel
theorem dX6_bare_18 : decode cX6_bare 18 = .ok (.istore 5, 2) := by decide +kernel
theorem dX6_bare_20 : decode cX6_bare 20 = .ok (.iload 5, 2) := by decide +kernel
theorem dX6_bare_22 : decode cX6_bare 22 = .ok (.aload_n 0, 1) := by decide +kernel
theorem dX6_bare_23 : decode cX6_bare 23 = .ok (.getfield 57, 3) := by decide +kernel
theorem dX6_bare_26 : decode cX6_bare 26 = .ok (.if_icmp .ge 72, 3) := by decide +kernel
theorem dX6_bare_29 : decode cX6_bare 29 = .ok (.aload_n 0, 1) := by decide +kernel
theorem dX6_bare_30 : decode cX6_bare 30 = .ok (.getfield 7, 3) := by decide +kernel
theorem dX6_bare_33 : decode cX6_bare 33 = .ok (.bipush 10, 2) := by decide +kernel
theorem dX6_bare_35 : decode cX6_bare 35 = .ok (.iload_n 2, 1) := by decide +kernel
theorem dX6_bare_36 : decode cX6_bare 36 = .ok (.imul, 1) := by decide +kernel
theorem dX6_bare_37 : decode cX6_bare 37 = .ok (.iload 5, 2) := by decide +kernel
theorem dX6_bare_39 : decode cX6_bare 39 = .ok (.iadd, 1) := by decide +kernel
theorem dX6_bare_40 : decode cX6_bare 40 = .ok (.baload, 1) := by decide +kernel
theorem dX6_bare_41 : decode cX6_bare 41 = .ok (.ifCond .ne 17, 3) := by decide +kernel
theorem dX6_bare_44 : decode cX6_bare 44 = .ok (.aload_n 0, 1) := by decide +kernel
theorem dX6_bare_45 : decode cX6_bare 45 = .ok (.bipush 10, 2) := by decide +kernel
theorem dX6_bare_47 : decode cX6_bare 47 = .ok (.iload_n 2, 1) := by decide +kernel
theorem dX6_bare_48 : decode cX6_bare 48 = .ok (.imul, 1) := by decide +kernel
theorem dX6_bare_49 : decode cX6_bare 49 = .ok (.iload 5, 2) := by decide +kernel
theorem dX6_bare_51 : decode cX6_bare 51 = .ok (.iadd, 1) := by decide +kernel
theorem dX6_bare_52 : decode cX6_bare 52 = .ok (.invokevirtual 125, 3) := by decide +kernel
theorem dX6_bare_55 : decode cX6_bare 55 = .ok (.ifCond .eq 5, 3) := by decide +kernel
theorem dX6_bare_58 : decode cX6_bare 58 = .ok (.iconst 0, 1) := by decide +kernel
theorem dX6_bare_59 : decode cX6_bare 59 = .ok (.istore_n 3, 1) := by decide +kernel
theorem dX6_bare_60 : decode cX6_bare 60 = .ok (.aload_n 0, 1) := by decide +kernel
theorem dX6_bare_61 : decode cX6_bare 61 = .ok (.getfield 7, 3) := by decide +kernel
theorem dX6_bare_64 : decode cX6_bare 64 = .ok (.bipush 10, 2) := by decide +kernel
theorem dX6_bare_66 : decode cX6_bare 66 = .ok (.iload 5, 2) := by decide +kernel
theorem dX6_bare_68 : decode cX6_bare 68 = .ok (.imul, 1) := by decide +kernel
theorem dX6_bare_69 : decode cX6_bare 69 = .ok (.iload_n 2, 1) := by decide +kernel
theorem dX6_bare_70 : decode cX6_bare 70 = .ok (.iadd, 1) := by decide +kernel
theorem dX6_bare_71 : decode cX6_bare 71 = .ok (.baload, 1) := by decide +kernel
theorem dX6_bare_72 : decode cX6_bare 72 = .ok (.ifCond .ne 17, 3) := by decide +kernel
theorem dX6_bare_75 : decode cX6_bare 75 = .ok (.aload_n 0, 1) := by decide +kernel
theorem dX6_bare_76 : decode cX6_bare 76 = .ok (.bipush 10, 2) := by decide +kernel
theorem dX6_bare_78 : decode cX6_bare 78 = .ok (.iload 5, 2) := by decide +kernel
theorem dX6_bare_80 : decode cX6_bare 80 = .ok (.imul, 1) := by decide +kernel
theorem dX6_bare_81 : decode cX6_bare 81 = .ok (.iload_n 2, 1) := by decide +kernel
theorem dX6_bare_82 : decode cX6_bare 82 = .ok (.iadd, 1) := by decide +kernel
theorem dX6_bare_83 : decode cX6_bare 83 = .ok (.invokevirtual 125, 3) := by decide +kernel
theorem dX6_bare_86 : decode cX6_bare 86 = .ok (.ifCond .eq 6, 3) := by decide +kernel
theorem dX6_bare_89 : decode cX6_bare 89 = .ok (.iconst 0, 1) := by decide +kernel
theorem dX6_bare_90 : decode cX6_bare 90 = .ok (.istore 4, 2) := by decide +kernel
theorem dX6_bare_92 : decode cX6_bare 92 = .ok (.iinc 5 1, 3) := by decide +kernel
theorem dX6_bare_95 : decode cX6_bare 95 = .ok (.goto (-75), 3) := by decide +kernel
theorem dX6_bare_98 : decode cX6_bare 98 = .ok (.iload_n 3, 1) := by decide +kernel
theorem dX6_bare_99 : decode cX6_bare 99 = .ok (.ifCond .eq 9, 3) := by decide +kernel
theorem dX6_bare_102 : decode cX6_bare 102 = .ok (.iload_n 1, 1) := by decide +kernel
theorem dX6_bare_103 : decode cX6_bare 103 = .ok (.iconst 1, 1) := by decide +kernel
theorem dX6_bare_104 : decode cX6_bare 104 = .ok (.iload_n 2, 1) := by decide +kernel
theorem dX6_bare_105 : decode cX6_bare 105 = .ok (.ishl, 1) := by decide +kernel
theorem dX6_bare_106 : decode cX6_bare 106 = .ok (.ior, 1) := by decide +kernel
theorem dX6_bare_107 : decode cX6_bare 107 = .ok (.istore_n 1, 1) := by decide +kernel
theorem dX6_bare_108 : decode cX6_bare 108 = .ok (.iload 4, 2) := by decide +kernel
theorem dX6_bare_110 : decode cX6_bare 110 = .ok (.ifCond .eq 12, 3) := by decide +kernel
theorem dX6_bare_113 : decode cX6_bare 113 = .ok (.iload_n 1, 1) := by decide +kernel
theorem dX6_bare_114 : decode cX6_bare 114 = .ok (.iconst 1, 1) := by decide +kernel
theorem dX6_bare_115 : decode cX6_bare 115 = .ok (.bipush 7, 2) := by decide +kernel
theorem dX6_bare_117 : decode cX6_bare 117 = .ok (.iload_n 2, 1) := by decide +kernel
theorem dX6_bare_118 : decode cX6_bare 118 = .ok (.iadd, 1) := by decide +kernel
theorem dX6_bare_119 : decode cX6_bare 119 = .ok (.ishl, 1) := by decide +kernel
theorem dX6_bare_120 : decode cX6_bare 120 = .ok (.ior, 1) := by decide +kernel
theorem dX6_bare_121 : decode cX6_bare 121 = .ok (.istore_n 1, 1) := by decide +kernel
theorem dX6_bare_122 : decode cX6_bare 122 = .ok (.iinc 2 1, 3) := by decide +kernel
theorem dX6_bare_125 : decode cX6_bare 125 = .ok (.goto (-121), 3) := by decide +kernel
theorem dX6_bare_128 : decode cX6_bare 128 = .ok (.iload_n 1, 1) := by decide +kernel
theorem dX6_bare_129 : decode cX6_bare 129 = .ok (.ireturn, 1) := by decide +kernel
theorem dX6_late_0 : decode cX6_late 0 = .ok (.iload_n 1, 1) := by decide +kernel
theorem dX6_late_1 : decode cX6_late 1 = .ok (.invokestatic 79, 3) := by decide +kernel
theorem dX6_late_4 : decode cX6_late 4 = .ok (.ifCond .eq 22, 3) := by decide +kernel
theorem dX6_late_7 : decode cX6_late 7 = .ok (.iload_n 2, 1) := by decide +kernel
theorem dX6_late_8 : decode cX6_late 8 = .ok (.iconst 0, 1) := by decide +kernel
theorem dX6_late_9 : decode cX6_late 9 = .ok (.bipush 40, 2) := by decide +kernel
theorem dX6_late_11 : decode cX6_late 11 = .ok (.invokestatic 75, 3) := by decide +kernel
theorem dX6_late_14 : decode cX6_late 14 = .ok (.ifCond .eq 12, 3) := by decide +kernel
theorem dX6_late_17 : decode cX6_late 17 = .ok (.iload_n 3, 1) := by decide +kernel
theorem dX6_late_18 : decode cX6_late 18 = .ok (.iconst 0, 1) := by decide +kernel
theorem dX6_late_19 : decode cX6_late 19 = .ok (.iconst 3, 1) := by decide +kernel
theorem dX6_late_20 : decode cX6_late 20 = .ok (.invokestatic 75, 3) := by decide +kernel
theorem dX6_late_23 : decode cX6_late 23 = .ok (.ifCond .ne 10, 3) := by decide +kernel
theorem dX6_late_26 : decode cX6_late 26 = .ok (.aload_n 0, 1) := by decide +kernel
theorem dX6_late_27 : decode cX6_late 27 = .ok (.bipush (-2), 2) := by decide +kernel
theorem dX6_late_29 : decode cX6_late 29 = .ok (.invokevirtual 83, 3) := by decide +kernel
theorem dX6_late_32 : decode cX6_late 32 = .ok (.ireturn, 1) := by decide +kernel
theorem dX6_late_33 : decode cX6_late 33 = .ok (.aload_n 0, 1) := by decide +kernel
theorem dX6_late_34 : decode cX6_late 34 = .ok (.iload_n 1, 1) := by decide +kernel
theorem dX6_late_35 : decode cX6_late 35 = .ok (.iload_n 2, 1) := by decide +kernel
theorem dX6_late_36 : decode cX6_late 36 = .ok (.invokevirtual 253, 3) := by decide +kernel
theorem dX6_late_39 : decode cX6_late 39 = .ok (.istore 4, 2) := by decide +kernel
theorem dX6_late_41 : decode cX6_late 41 = .ok (.iload 4, 2) := by decide +kernel
theorem dX6_late_43 : decode cX6_late 43 = .ok (.ifCond .ge 10, 3) := by decide +kernel
theorem dX6_late_46 : decode cX6_late 46 = .ok (.aload_n 0, 1) := by decide +kernel
theorem dX6_late_47 : decode cX6_late 47 = .ok (.iload 4, 2) := by decide +kernel
theorem dX6_late_49 : decode cX6_late 49 = .ok (.invokevirtual 83, 3) := by decide +kernel
theorem dX6_late_52 : decode cX6_late 52 = .ok (.ireturn, 1) := by decide +kernel
theorem dX6_late_53 : decode cX6_late 53 = .ok (.iconst 0, 1) := by decide +kernel
theorem dX6_late_54 : decode cX6_late 54 = .ok (.istore 5, 2) := by decide +kernel
theorem dX6_late_56 : decode cX6_late 56 = .ok (.iload 5, 2) := by decide +kernel
theorem dX6_late_58 : decode cX6_late 58 = .ok (.iload_n 2, 1) := by decide +kernel
theorem dX6_late_59 : decode cX6_late 59 = .ok (.if_icmp .ge 42, 3) := by decide +kernel
theorem dX6_late_62 : decode cX6_late 62 = .ok (.aload_n 0, 1) := by decide +kernel
theorem dX6_late_63 : decode cX6_late 63 = .ok (.iload_n 1, 1) := by decide +kernel
theorem dX6_late_64 : decode cX6_late 64 = .ok (.iload 5, 2) := by decide +kernel
theorem dX6_late_66 : decode cX6_late 66 = .ok (.invokevirtual 256, 3) := by decide +kernel
theorem dX6_late_69 : decode cX6_late 69 = .ok (.lconst 0, 1) := by decide +kernel
theorem dX6_late_70 : decode cX6_late 70 = .ok (.lcmp, 1) := by decide +kernel
theorem dX6_late_71 : decode cX6_late 71 = .ok (.ifCond .lt 17, 3) := by decide +kernel
theorem dX6_late_74 : decode cX6_late 74 = .ok (.aload_n 0, 1) := by decide +kernel
theorem dX6_late_75 : decode cX6_late 75 = .ok (.iload_n 1, 1) := by decide +kernel
theorem dX6_late_76 : decode cX6_late 76 = .ok (.iload 5, 2) := by decide +kernel
theorem dX6_late_78 : decode cX6_late 78 = .ok (.invokevirtual 256, 3) := by decide +kernel
theorem dX6_late_81 : decode cX6_late 81 = .ok (.ldc2_w 260, 3) := by decide +kernel
theorem dX6_late_84 : decode cX6_late 84 = .ok (.lcmp, 1) := by decide +kernel
theorem dX6_late_85 : decode cX6_late 85 = .ok (.ifCond .le 10, 3) := by decide +kernel
theorem dX6_late_88 : decode cX6_late 88 = .ok (.aload_n 0, 1) := by decide +kernel
theorem dX6_late_89 : decode cX6_late 89 = .ok (.bipush (-5), 2) := by decide +kernel
theorem dX6_late_91 : decode cX6_late 91 = .ok (.invokevirtual 83, 3) := by decide +kernel
theorem dX6_late_94 : decode cX6_late 94 = .ok (.ireturn, 1) := by decide +kernel
theorem dX6_late_95 : decode cX6_late 95 = .ok (.iinc 5 1, 3) := by decide +kernel
theorem dX6_late_98 : decode cX6_late 98 = .ok (.goto (-42), 3) := by decide +kernel
theorem dX6_late_101 : decode cX6_late 101 = .ok (.aload_n 0, 1) := by decide +kernel
theorem dX6_late_102 : decode cX6_late 102 = .ok (.iconst 0, 1) := by decide +kernel
theorem dX6_late_103 : decode cX6_late 103 = .ok (.invokevirtual 104, 3) := by decide +kernel
theorem dX6_late_106 : decode cX6_late 106 = .ok (.iconst 0, 1) := by decide +kernel
theorem dX6_late_107 : decode cX6_late 107 = .ok (.istore 5, 2) := by decide +kernel
theorem dX6_late_109 : decode cX6_late 109 = .ok (.iload 5, 2) := by decide +kernel
theorem dX6_late_111 : decode cX6_late 111 = .ok (.iload_n 2, 1) := by decide +kernel
theorem dX6_late_112 : decode cX6_late 112 = .ok (.iload_n 3, 1) := by decide +kernel
theorem dX6_late_113 : decode cX6_late 113 = .ok (.iadd, 1) := by decide +kernel
theorem dX6_late_114 : decode cX6_late 114 = .ok (.if_icmp .ge 33, 3) := by decide +kernel
theorem dX6_late_117 : decode cX6_late 117 = .ok (.aload_n 0, 1) := by decide +kernel
theorem dX6_late_118 : decode cX6_late 118 = .ok (.iload 5, 2) := by decide +kernel
theorem dX6_late_120 : decode cX6_late 120 = .ok (.iload_n 3, 1) := by decide +kernel
theorem dX6_late_121 : decode cX6_late 121 = .ok (.if_icmp .ge 7, 3) := by decide +kernel
theorem dX6_late_124 : decode cX6_late 124 = .ok (.iconst 0, 1) := by decide +kernel
theorem dX6_late_125 : decode cX6_late 125 = .ok (.goto 13, 3) := by decide +kernel
theorem dX6_late_128 : decode cX6_late 128 = .ok (.aload_n 0, 1) := by decide +kernel
theorem dX6_late_129 : decode cX6_late 129 = .ok (.iload_n 1, 1) := by decide +kernel
theorem dX6_late_130 : decode cX6_late 130 = .ok (.iload 5, 2) := by decide +kernel
theorem dX6_late_132 : decode cX6_late 132 = .ok (.iload_n 3, 1) := by decide +kernel
theorem dX6_late_133 : decode cX6_late 133 = .ok (.isub, 1) := by decide +kernel
theorem dX6_late_134 : decode cX6_late 134 = .ok (.invokevirtual 256, 3) := by decide +kernel
theorem dX6_late_137 : decode cX6_late 137 = .ok (.l2i, 1) := by decide +kernel
theorem dX6_late_138 : decode cX6_late 138 = .ok (.invokevirtual 238, 3) := by decide +kernel
theorem dX6_late_141 : decode cX6_late 141 = .ok (.iinc 5 1, 3) := by decide +kernel
theorem dX6_late_144 : decode cX6_late 144 = .ok (.goto (-35), 3) := by decide +kernel
theorem dX6_late_147 : decode cX6_late 147 = .ok (.aload_n 0, 1) := by decide +kernel
theorem dX6_late_148 : decode cX6_late 148 = .ok (.invokevirtual 135, 3) := by decide +kernel
theorem dX6_late_151 : decode cX6_late 151 = .ok (.istore 5, 2) := by decide +kernel
theorem dX6_late_153 : decode cX6_late 153 = .ok (.aload_n 0, 1) := by decide +kernel
theorem dX6_late_154 : decode cX6_late 154 = .ok (.iconst 0, 1) := by decide +kernel
theorem dX6_late_155 : decode cX6_late 155 = .ok (.invokevirtual 111, 3) := by decide +kernel
theorem dX6_late_158 : decode cX6_late 158 = .ok (.iload 5, 2) := by decide +kernel
theorem dX6_late_160 : decode cX6_late 160 = .ok (.ireturn, 1) := by decide +kernel
theorem dX6_last_0 : decode cX6_last 0 = .ok (.iconst (-1), 1) := by decide +kernel
theorem dX6_last_1 : decode cX6_last 1 = .ok (.istore_n 1, 1) := by decide +kernel
theorem dX6_last_2 : decode cX6_last 2 = .ok (.iconst 0, 1) := by decide +kernel
theorem dX6_last_3 : decode cX6_last 3 = .ok (.istore_n 2, 1) := by decide +kernel
theorem dX6_last_4 : decode cX6_last 4 = .ok (.iload_n 2, 1) := by decide +kernel
theorem dX6_last_5 : decode cX6_last 5 = .ok (.aload_n 0, 1) := by decide +kernel
theorem dX6_last_6 : decode cX6_last 6 = .ok (.getfield 72, 3) := by decide +kernel
theorem dX6_last_9 : decode cX6_last 9 = .ok (.if_icmp .ge 45, 3) := by decide +kernel
theorem dX6_last_12 : decode cX6_last 12 = .ok (.iload_n 1, 1) := by decide +kernel
theorem dX6_last_13 : decode cX6_last 13 = .ok (.iconst (-1), 1) := by decide +kernel
theorem dX6_last_14 : decode cX6_last 14 = .ok (.if_icmp .eq 32, 3) := by decide +kernel
theorem dX6_last_17 : decode cX6_last 17 = .ok (.aload_n 0, 1) := by decide +kernel
theorem dX6_last_18 : decode cX6_last 18 = .ok (.getfield 20, 3) := by decide +kernel
theorem dX6_last_21 : decode cX6_last 21 = .ok (.iload_n 2, 1) := by decide +kernel
theorem dX6_last_22 : decode cX6_last 22 = .ok (.iaload, 1) := by decide +kernel
theorem dX6_last_23 : decode cX6_last 23 = .ok (.aload_n 0, 1) := by decide +kernel
theorem dX6_last_24 : decode cX6_last 24 = .ok (.getfield 119, 3) := by decide +kernel
theorem dX6_last_27 : decode cX6_last 27 = .ok (.invokestatic 215, 3) := by decide +kernel
theorem dX6_last_30 : decode cX6_last 30 = .ok (.aload_n 0, 1) := by decide +kernel
theorem dX6_last_31 : decode cX6_last 31 = .ok (.getfield 20, 3) := by decide +kernel
theorem dX6_last_34 : decode cX6_last 34 = .ok (.iload_n 1, 1) := by decide +kernel
theorem dX6_last_35 : decode cX6_last 35 = .ok (.iaload, 1) := by decide +kernel
theorem dX6_last_36 : decode cX6_last 36 = .ok (.aload_n 0, 1) := by decide +kernel
theorem dX6_last_37 : decode cX6_last 37 = .ok (.getfield 119, 3) := by decide +kernel
theorem dX6_last_40 : decode cX6_last 40 = .ok (.invokestatic 215, 3) := by decide +kernel
theorem dX6_last_43 : decode cX6_last 43 = .ok (.if_icmp .le 5, 3) := by decide +kernel
theorem dX6_last_46 : decode cX6_last 46 = .ok (.iload_n 2, 1) := by decide +kernel
theorem dX6_last_47 : decode cX6_last 47 = .ok (.istore_n 1, 1) := by decide +kernel
theorem dX6_last_48 : decode cX6_last 48 = .ok (.iinc 2 1, 3) := by decide +kernel
theorem dX6_last_51 : decode cX6_last 51 = .ok (.goto (-47), 3) := by decide +kernel
theorem dX6_last_54 : decode cX6_last 54 = .ok (.iload_n 1, 1) := by decide +kernel
theorem dX6_last_55 : decode cX6_last 55 = .ok (.ireturn, 1) := by decide +kernel
theorem dX6_near_0 : decode cX6_near 0 = .ok (.aload_n 0, 1) := by decide +kernel
theorem dX6_near_1 : decode cX6_near 1 = .ok (.iload_n 1, 1) := by decide +kernel
theorem dX6_near_2 : decode cX6_near 2 = .ok (.invokevirtual 97, 3) := by decide +kernel
theorem dX6_near_5 : decode cX6_near 5 = .ok (.ifCond .eq 13, 3) := by decide +kernel
theorem dX6_near_8 : decode cX6_near 8 = .ok (.iload_n 2, 1) := by decide +kernel
theorem dX6_near_9 : decode cX6_near 9 = .ok (.iconst 0, 1) := by decide +kernel
theorem dX6_near_10 : decode cX6_near 10 = .ok (.bipush 12, 2) := by decide +kernel
theorem dX6_near_12 : decode cX6_near 12 = .ok (.invokestatic 75, 3) := by decide +kernel
theorem dX6_near_15 : decode cX6_near 15 = .ok (.ifCond .ne 10, 3) := by decide +kernel
theorem dX6_near_18 : decode cX6_near 18 = .ok (.aload_n 0, 1) := by decide +kernel
theorem dX6_near_19 : decode cX6_near 19 = .ok (.bipush (-2), 2) := by decide +kernel
theorem dX6_near_21 : decode cX6_near 21 = .ok (.invokevirtual 83, 3) := by decide +kernel
theorem dX6_near_24 : decode cX6_near 24 = .ok (.ireturn, 1) := by decide +kernel
theorem dX6_near_25 : decode cX6_near 25 = .ok (.iconst 0, 1) := by decide +kernel
theorem dX6_near_26 : decode cX6_near 26 = .ok (.istore_n 3, 1) := by decide +kernel
theorem dX6_near_27 : decode cX6_near 27 = .ok (.iconst 0, 1) := by decide +kernel
theorem dX6_near_28 : decode cX6_near 28 = .ok (.istore 4, 2) := by decide +kernel
theorem dX6_near_30 : decode cX6_near 30 = .ok (.iload 4, 2) := by decide +kernel
theorem dX6_near_32 : decode cX6_near 32 = .ok (.aload_n 0, 1) := by decide +kernel
theorem dX6_near_33 : decode cX6_near 33 = .ok (.getfield 72, 3) := by decide +kernel
theorem dX6_near_36 : decode cX6_near 36 = .ok (.if_icmp .ge 42, 3) := by decide +kernel
theorem dX6_near_39 : decode cX6_near 39 = .ok (.iload 4, 2) := by decide +kernel
theorem dX6_near_41 : decode cX6_near 41 = .ok (.iload_n 1, 1) := by decide +kernel
theorem dX6_near_42 : decode cX6_near 42 = .ok (.if_icmp .eq 30, 3) := by decide +kernel
theorem dX6_near_45 : decode cX6_near 45 = .ok (.aload_n 0, 1) := by decide +kernel
theorem dX6_near_46 : decode cX6_near 46 = .ok (.getfield 20, 3) := by decide +kernel
theorem dX6_near_49 : decode cX6_near 49 = .ok (.iload 4, 2) := by decide +kernel
theorem dX6_near_51 : decode cX6_near 51 = .ok (.iaload, 1) := by decide +kernel
theorem dX6_near_52 : decode cX6_near 52 = .ok (.aload_n 0, 1) := by decide +kernel
theorem dX6_near_53 : decode cX6_near 53 = .ok (.getfield 20, 3) := by decide +kernel
theorem dX6_near_56 : decode cX6_near 56 = .ok (.iload_n 1, 1) := by decide +kernel
theorem dX6_near_57 : decode cX6_near 57 = .ok (.iaload, 1) := by decide +kernel
theorem dX6_near_58 : decode cX6_near 58 = .ok (.invokestatic 215, 3) := by decide +kernel
theorem dX6_near_61 : decode cX6_near 61 = .ok (.iload_n 2, 1) := by decide +kernel
theorem dX6_near_62 : decode cX6_near 62 = .ok (.if_icmp .gt 10, 3) := by decide +kernel
theorem dX6_near_65 : decode cX6_near 65 = .ok (.iload_n 3, 1) := by decide +kernel
theorem dX6_near_66 : decode cX6_near 66 = .ok (.iconst 1, 1) := by decide +kernel
theorem dX6_near_67 : decode cX6_near 67 = .ok (.iload 4, 2) := by decide +kernel
theorem dX6_near_69 : decode cX6_near 69 = .ok (.ishl, 1) := by decide +kernel
theorem dX6_near_70 : decode cX6_near 70 = .ok (.ior, 1) := by decide +kernel
theorem dX6_near_71 : decode cX6_near 71 = .ok (.istore_n 3, 1) := by decide +kernel
theorem dX6_near_72 : decode cX6_near 72 = .ok (.iinc 4 1, 3) := by decide +kernel
theorem dX6_near_75 : decode cX6_near 75 = .ok (.goto (-45), 3) := by decide +kernel
theorem dX6_near_78 : decode cX6_near 78 = .ok (.iload_n 3, 1) := by decide +kernel
theorem dX6_near_79 : decode cX6_near 79 = .ok (.ireturn, 1) := by decide +kernel
theorem dX6_steps__0 : decode cX6_steps_ 0 = .ok (.aload_n 0, 1) := by decide +kernel
theorem dX6_steps__1 : decode cX6_steps_ 1 = .ok (.invokevirtual 250, 3) := by decide +kernel
theorem dX6_steps__4 : decode cX6_steps_ 4 = .ok (.ireturn, 1) := by decide +kernel
theorem dX6_best_0 : decode cX6_best 0 = .ok (.iconst (-1), 1) := by decide +kernel
theorem dX6_best_1 : decode cX6_best 1 = .ok (.istore_n 1, 1) := by decide +kernel
theorem dX6_best_2 : decode cX6_best 2 = .ok (.iconst 0, 1) := by decide +kernel
theorem dX6_best_3 : decode cX6_best 3 = .ok (.istore_n 2, 1) := by decide +kernel
theorem dX6_best_4 : decode cX6_best 4 = .ok (.aload_n 0, 1) := by decide +kernel
theorem dX6_best_5 : decode cX6_best 5 = .ok (.iconst 0, 1) := by decide +kernel
theorem dX6_best_6 : decode cX6_best 6 = .ok (.invokevirtual 104, 3) := by decide +kernel
theorem dX6_best_9 : decode cX6_best 9 = .ok (.iconst 0, 1) := by decide +kernel
theorem dX6_best_10 : decode cX6_best 10 = .ok (.istore_n 3, 1) := by decide +kernel
theorem dX6_best_11 : decode cX6_best 11 = .ok (.iload_n 3, 1) := by decide +kernel
theorem dX6_best_12 : decode cX6_best 12 = .ok (.iconst 5, 1) := by decide +kernel
theorem dX6_best_13 : decode cX6_best 13 = .ok (.if_icmp .ge 55, 3) := by decide +kernel
theorem dX6_best_16 : decode cX6_best 16 = .ok (.aload_n 0, 1) := by decide +kernel
theorem dX6_best_17 : decode cX6_best 17 = .ok (.iload_n 3, 1) := by decide +kernel
theorem dX6_best_18 : decode cX6_best 18 = .ok (.invokevirtual 232, 3) := by decide +kernel
theorem dX6_best_21 : decode cX6_best 21 = .ok (.ifCond .ne 6, 3) := by decide +kernel
theorem dX6_best_24 : decode cX6_best 24 = .ok (.goto 38, 3) := by decide +kernel
theorem dX6_best_27 : decode cX6_best 27 = .ok (.aload_n 0, 1) := by decide +kernel
theorem dX6_best_28 : decode cX6_best 28 = .ok (.iload_n 3, 1) := by decide +kernel
theorem dX6_best_29 : decode cX6_best 29 = .ok (.invokevirtual 238, 3) := by decide +kernel
theorem dX6_best_32 : decode cX6_best 32 = .ok (.aload_n 0, 1) := by decide +kernel
theorem dX6_best_33 : decode cX6_best 33 = .ok (.invokevirtual 250, 3) := by decide +kernel
theorem dX6_best_36 : decode cX6_best 36 = .ok (.istore 4, 2) := by decide +kernel
theorem dX6_best_38 : decode cX6_best 38 = .ok (.aload_n 0, 1) := by decide +kernel
theorem dX6_best_39 : decode cX6_best 39 = .ok (.iconst 0, 1) := by decide +kernel
theorem dX6_best_40 : decode cX6_best 40 = .ok (.invokevirtual 111, 3) := by decide +kernel
theorem dX6_best_43 : decode cX6_best 43 = .ok (.iload_n 1, 1) := by decide +kernel
theorem dX6_best_44 : decode cX6_best 44 = .ok (.iconst (-1), 1) := by decide +kernel
theorem dX6_best_45 : decode cX6_best 45 = .ok (.if_icmp .eq 12, 3) := by decide +kernel
theorem dX6_best_48 : decode cX6_best 48 = .ok (.iload 4, 2) := by decide +kernel
theorem dX6_best_50 : decode cX6_best 50 = .ok (.iload_n 2, 1) := by decide +kernel
theorem dX6_best_51 : decode cX6_best 51 = .ok (.if_icmp .lt 6, 3) := by decide +kernel
theorem dX6_best_54 : decode cX6_best 54 = .ok (.goto 8, 3) := by decide +kernel
theorem dX6_best_57 : decode cX6_best 57 = .ok (.iload 4, 2) := by decide +kernel
theorem dX6_best_59 : decode cX6_best 59 = .ok (.istore_n 2, 1) := by decide +kernel
theorem dX6_best_60 : decode cX6_best 60 = .ok (.iload_n 3, 1) := by decide +kernel
theorem dX6_best_61 : decode cX6_best 61 = .ok (.istore_n 1, 1) := by decide +kernel
theorem dX6_best_62 : decode cX6_best 62 = .ok (.iinc 3 1, 3) := by decide +kernel
theorem dX6_best_65 : decode cX6_best 65 = .ok (.goto (-54), 3) := by decide +kernel
theorem dX6_best_68 : decode cX6_best 68 = .ok (.iload_n 1, 1) := by decide +kernel
theorem dX6_best_69 : decode cX6_best 69 = .ok (.ireturn, 1) := by decide +kernel
theorem dX6_isSo_0 : decode cX6_isSo 0 = .ok (.iconst 0, 1) := by decide +kernel
theorem dX6_isSo_1 : decode cX6_isSo 1 = .ok (.istore 5, 2) := by decide +kernel
theorem dX6_isSo_3 : decode cX6_isSo 3 = .ok (.iload 5, 2) := by decide +kernel
theorem dX6_isSo_5 : decode cX6_isSo 5 = .ok (.iload_n 3, 1) := by decide +kernel
theorem dX6_isSo_6 : decode cX6_isSo 6 = .ok (.if_icmp .ge 48, 3) := by decide +kernel
theorem dX6_isSo_9 : decode cX6_isSo 9 = .ok (.aload_n 0, 1) := by decide +kernel
theorem dX6_isSo_10 : decode cX6_isSo 10 = .ok (.aload_n 0, 1) := by decide +kernel
theorem dX6_isSo_11 : decode cX6_isSo 11 = .ok (.iload_n 1, 1) := by decide +kernel
theorem dX6_isSo_12 : decode cX6_isSo 12 = .ok (.iload 5, 2) := by decide +kernel
theorem dX6_isSo_14 : decode cX6_isSo 14 = .ok (.invokevirtual 256, 3) := by decide +kernel
theorem dX6_isSo_17 : decode cX6_isSo 17 = .ok (.l2i, 1) := by decide +kernel
theorem dX6_isSo_18 : decode cX6_isSo 18 = .ok (.putfield 61, 3) := by decide +kernel
theorem dX6_isSo_21 : decode cX6_isSo 21 = .ok (.aload_n 0, 1) := by decide +kernel
theorem dX6_isSo_22 : decode cX6_isSo 22 = .ok (.iload 4, 2) := by decide +kernel
theorem dX6_isSo_24 : decode cX6_isSo 24 = .ok (.invokevirtual 108, 3) := by decide +kernel
theorem dX6_isSo_27 : decode cX6_isSo 27 = .ok (.aload_n 0, 1) := by decide +kernel
theorem dX6_isSo_28 : decode cX6_isSo 28 = .ok (.getfield 20, 3) := by decide +kernel
theorem dX6_isSo_31 : decode cX6_isSo 31 = .ok (.iload 4, 2) := by decide +kernel
theorem dX6_isSo_33 : decode cX6_isSo 33 = .ok (.iaload, 1) := by decide +kernel
theorem dX6_isSo_34 : decode cX6_isSo 34 = .ok (.i2l, 1) := by decide +kernel
theorem dX6_isSo_35 : decode cX6_isSo 35 = .ok (.aload_n 0, 1) := by decide +kernel
theorem dX6_isSo_36 : decode cX6_isSo 36 = .ok (.iload_n 2, 1) := by decide +kernel
theorem dX6_isSo_37 : decode cX6_isSo 37 = .ok (.iload 5, 2) := by decide +kernel
theorem dX6_isSo_39 : decode cX6_isSo 39 = .ok (.invokevirtual 256, 3) := by decide +kernel
theorem dX6_isSo_42 : decode cX6_isSo 42 = .ok (.lcmp, 1) := by decide +kernel
theorem dX6_isSo_43 : decode cX6_isSo 43 = .ok (.ifCond .eq 5, 3) := by decide +kernel
theorem dX6_isSo_46 : decode cX6_isSo 46 = .ok (.iconst 0, 1) := by decide +kernel
theorem dX6_isSo_47 : decode cX6_isSo 47 = .ok (.ireturn, 1) := by decide +kernel
theorem dX6_isSo_48 : decode cX6_isSo 48 = .ok (.iinc 5 1, 3) := by decide +kernel
theorem dX6_isSo_51 : decode cX6_isSo 51 = .ok (.goto (-48), 3) := by decide +kernel
theorem dX6_isSo_54 : decode cX6_isSo 54 = .ok (.iconst 1, 1) := by decide +kernel
theorem dX6_isSo_55 : decode cX6_isSo 55 = .ok (.ireturn, 1) := by decide +kernel
theorem dX6_kinds_0 : decode cX6_kinds 0 = .ok (.iload_n 1, 1) := by decide +kernel
theorem dX6_kinds_1 : decode cX6_kinds 1 = .ok (.invokestatic 79, 3) := by decide +kernel
theorem dX6_kinds_4 : decode cX6_kinds 4 = .ok (.ifCond .eq 29, 3) := by decide +kernel
theorem dX6_kinds_7 : decode cX6_kinds 7 = .ok (.iload_n 2, 1) := by decide +kernel
theorem dX6_kinds_8 : decode cX6_kinds 8 = .ok (.invokestatic 79, 3) := by decide +kernel
theorem dX6_kinds_11 : decode cX6_kinds 11 = .ok (.ifCond .eq 22, 3) := by decide +kernel
theorem dX6_kinds_14 : decode cX6_kinds 14 = .ok (.iload_n 3, 1) := by decide +kernel
theorem dX6_kinds_15 : decode cX6_kinds 15 = .ok (.iconst 0, 1) := by decide +kernel
theorem dX6_kinds_16 : decode cX6_kinds 16 = .ok (.bipush 40, 2) := by decide +kernel
theorem dX6_kinds_18 : decode cX6_kinds 18 = .ok (.invokestatic 75, 3) := by decide +kernel
theorem dX6_kinds_21 : decode cX6_kinds 21 = .ok (.ifCond .eq 12, 3) := by decide +kernel
theorem dX6_kinds_24 : decode cX6_kinds 24 = .ok (.aload_n 0, 1) := by decide +kernel
theorem dX6_kinds_25 : decode cX6_kinds 25 = .ok (.iload 4, 2) := by decide +kernel
theorem dX6_kinds_27 : decode cX6_kinds 27 = .ok (.invokevirtual 97, 3) := by decide +kernel
theorem dX6_kinds_30 : decode cX6_kinds 30 = .ok (.ifCond .ne 10, 3) := by decide +kernel
theorem dX6_kinds_33 : decode cX6_kinds 33 = .ok (.aload_n 0, 1) := by decide +kernel
theorem dX6_kinds_34 : decode cX6_kinds 34 = .ok (.bipush (-2), 2) := by decide +kernel
theorem dX6_kinds_36 : decode cX6_kinds 36 = .ok (.invokevirtual 83, 3) := by decide +kernel
theorem dX6_kinds_39 : decode cX6_kinds 39 = .ok (.ireturn, 1) := by decide +kernel
theorem dX6_kinds_40 : decode cX6_kinds 40 = .ok (.aload_n 0, 1) := by decide +kernel
theorem dX6_kinds_41 : decode cX6_kinds 41 = .ok (.getfield 26, 3) := by decide +kernel
theorem dX6_kinds_44 : decode cX6_kinds 44 = .ok (.iload_n 1, 1) := by decide +kernel
theorem dX6_kinds_45 : decode cX6_kinds 45 = .ok (.iaload, 1) := by decide +kernel
theorem dX6_kinds_46 : decode cX6_kinds 46 = .ok (.iconst 4, 1) := by decide +kernel
theorem dX6_kinds_47 : decode cX6_kinds 47 = .ok (.if_icmp .gt 13, 3) := by decide +kernel
theorem dX6_kinds_50 : decode cX6_kinds 50 = .ok (.aload_n 0, 1) := by decide +kernel
theorem dX6_kinds_51 : decode cX6_kinds 51 = .ok (.getfield 26, 3) := by decide +kernel
theorem dX6_kinds_54 : decode cX6_kinds 54 = .ok (.iload_n 2, 1) := by decide +kernel
theorem dX6_kinds_55 : decode cX6_kinds 55 = .ok (.iaload, 1) := by decide +kernel
theorem dX6_kinds_56 : decode cX6_kinds 56 = .ok (.iconst 4, 1) := by decide +kernel
theorem dX6_kinds_57 : decode cX6_kinds 57 = .ok (.if_icmp .le 10, 3) := by decide +kernel
theorem dX6_kinds_60 : decode cX6_kinds 60 = .ok (.aload_n 0, 1) := by decide +kernel
theorem dX6_kinds_61 : decode cX6_kinds 61 = .ok (.bipush (-3), 2) := by decide +kernel
theorem dX6_kinds_63 : decode cX6_kinds 63 = .ok (.invokevirtual 83, 3) := by decide +kernel
theorem dX6_kinds_66 : decode cX6_kinds 66 = .ok (.ireturn, 1) := by decide +kernel
theorem dX6_kinds_67 : decode cX6_kinds 67 = .ok (.aload_n 0, 1) := by decide +kernel
theorem dX6_kinds_68 : decode cX6_kinds 68 = .ok (.getfield 26, 3) := by decide +kernel
theorem dX6_kinds_71 : decode cX6_kinds 71 = .ok (.iload_n 1, 1) := by decide +kernel
theorem dX6_kinds_72 : decode cX6_kinds 72 = .ok (.iaload, 1) := by decide +kernel
theorem dX6_kinds_73 : decode cX6_kinds 73 = .ok (.ifCond .lt 12, 3) := by decide +kernel
theorem dX6_kinds_76 : decode cX6_kinds 76 = .ok (.aload_n 0, 1) := by decide +kernel
theorem dX6_kinds_77 : decode cX6_kinds 77 = .ok (.getfield 26, 3) := by decide +kernel
theorem dX6_kinds_80 : decode cX6_kinds 80 = .ok (.iload_n 2, 1) := by decide +kernel
theorem dX6_kinds_81 : decode cX6_kinds 81 = .ok (.iaload, 1) := by decide +kernel
theorem dX6_kinds_82 : decode cX6_kinds 82 = .ok (.ifCond .ge 10, 3) := by decide +kernel
theorem dX6_kinds_85 : decode cX6_kinds 85 = .ok (.aload_n 0, 1) := by decide +kernel
theorem dX6_kinds_86 : decode cX6_kinds 86 = .ok (.bipush (-4), 2) := by decide +kernel
theorem dX6_kinds_88 : decode cX6_kinds 88 = .ok (.invokevirtual 83, 3) := by decide +kernel
theorem dX6_kinds_91 : decode cX6_kinds 91 = .ok (.ireturn, 1) := by decide +kernel
theorem dX6_kinds_92 : decode cX6_kinds 92 = .ok (.iload_n 3, 1) := by decide +kernel
theorem dX6_kinds_93 : decode cX6_kinds 93 = .ok (.aload_n 0, 1) := by decide +kernel
theorem dX6_kinds_94 : decode cX6_kinds 94 = .ok (.getfield 29, 3) := by decide +kernel
theorem dX6_kinds_97 : decode cX6_kinds 97 = .ok (.iload_n 1, 1) := by decide +kernel
theorem dX6_kinds_98 : decode cX6_kinds 98 = .ok (.iaload, 1) := by decide +kernel
theorem dX6_kinds_99 : decode cX6_kinds 99 = .ok (.if_icmp .gt 13, 3) := by decide +kernel
theorem dX6_kinds_102 : decode cX6_kinds 102 = .ok (.iload_n 3, 1) := by decide +kernel
theorem dX6_kinds_103 : decode cX6_kinds 103 = .ok (.aload_n 0, 1) := by decide +kernel
theorem dX6_kinds_104 : decode cX6_kinds 104 = .ok (.getfield 29, 3) := by decide +kernel
theorem dX6_kinds_107 : decode cX6_kinds 107 = .ok (.iload_n 2, 1) := by decide +kernel
theorem dX6_kinds_108 : decode cX6_kinds 108 = .ok (.iaload, 1) := by decide +kernel
theorem dX6_kinds_109 : decode cX6_kinds 109 = .ok (.if_icmp .le 10, 3) := by decide +kernel
theorem dX6_kinds_112 : decode cX6_kinds 112 = .ok (.aload_n 0, 1) := by decide +kernel
theorem dX6_kinds_113 : decode cX6_kinds 113 = .ok (.bipush (-2), 2) := by decide +kernel
theorem dX6_kinds_115 : decode cX6_kinds 115 = .ok (.invokevirtual 83, 3) := by decide +kernel
theorem dX6_kinds_118 : decode cX6_kinds 118 = .ok (.ireturn, 1) := by decide +kernel
theorem dX6_kinds_119 : decode cX6_kinds 119 = .ok (.aload_n 0, 1) := by decide +kernel
theorem dX6_kinds_120 : decode cX6_kinds 120 = .ok (.iload 4, 2) := by decide +kernel
theorem dX6_kinds_122 : decode cX6_kinds 122 = .ok (.invokevirtual 122, 3) := by decide +kernel
theorem dX6_kinds_125 : decode cX6_kinds 125 = .ok (.ifCond .ne 7, 3) := by decide +kernel
theorem dX6_kinds_128 : decode cX6_kinds 128 = .ok (.iconst 1, 1) := by decide +kernel
theorem dX6_kinds_129 : decode cX6_kinds 129 = .ok (.goto 4, 3) := by decide +kernel
theorem dX6_kinds_132 : decode cX6_kinds 132 = .ok (.iconst 0, 1) := by decide +kernel
theorem dX6_kinds_133 : decode cX6_kinds 133 = .ok (.istore 5, 2) := by decide +kernel
theorem dX6_kinds_135 : decode cX6_kinds 135 = .ok (.iconst 0, 1) := by decide +kernel
theorem dX6_kinds_136 : decode cX6_kinds 136 = .ok (.istore 6, 2) := by decide +kernel
theorem dX6_kinds_138 : decode cX6_kinds 138 = .ok (.iload 6, 2) := by decide +kernel
theorem dX6_kinds_140 : decode cX6_kinds 140 = .ok (.iload_n 3, 1) := by decide +kernel
theorem dX6_kinds_141 : decode cX6_kinds 141 = .ok (.if_icmp .ge 40, 3) := by decide +kernel
theorem dX6_kinds_144 : decode cX6_kinds 144 = .ok (.aload_n 0, 1) := by decide +kernel
theorem dX6_kinds_145 : decode cX6_kinds 145 = .ok (.aload_n 0, 1) := by decide +kernel
theorem dX6_kinds_146 : decode cX6_kinds 146 = .ok (.iload_n 1, 1) := by decide +kernel
theorem dX6_kinds_147 : decode cX6_kinds 147 = .ok (.iload 6, 2) := by decide +kernel
theorem dX6_kinds_149 : decode cX6_kinds 149 = .ok (.invokevirtual 256, 3) := by decide +kernel
theorem dX6_kinds_152 : decode cX6_kinds 152 = .ok (.invokevirtual 128, 3) := by decide +kernel
theorem dX6_kinds_155 : decode cX6_kinds 155 = .ok (.ifCond .eq 17, 3) := by decide +kernel
theorem dX6_kinds_158 : decode cX6_kinds 158 = .ok (.aload_n 0, 1) := by decide +kernel
theorem dX6_kinds_159 : decode cX6_kinds 159 = .ok (.aload_n 0, 1) := by decide +kernel
theorem dX6_kinds_160 : decode cX6_kinds 160 = .ok (.iload_n 2, 1) := by decide +kernel
theorem dX6_kinds_161 : decode cX6_kinds 161 = .ok (.iload 6, 2) := by decide +kernel
theorem dX6_kinds_163 : decode cX6_kinds 163 = .ok (.invokevirtual 256, 3) := by decide +kernel
theorem dX6_kinds_166 : decode cX6_kinds 166 = .ok (.invokevirtual 128, 3) := by decide +kernel
theorem dX6_kinds_169 : decode cX6_kinds 169 = .ok (.ifCond .ne 6, 3) := by decide +kernel
theorem dX6_kinds_172 : decode cX6_kinds 172 = .ok (.iconst 0, 1) := by decide +kernel
theorem dX6_kinds_173 : decode cX6_kinds 173 = .ok (.istore 5, 2) := by decide +kernel
theorem dX6_kinds_175 : decode cX6_kinds 175 = .ok (.iinc 6 1, 3) := by decide +kernel
theorem dX6_kinds_178 : decode cX6_kinds 178 = .ok (.goto (-40), 3) := by decide +kernel
theorem dX6_kinds_181 : decode cX6_kinds 181 = .ok (.iload 5, 2) := by decide +kernel
theorem dX6_kinds_183 : decode cX6_kinds 183 = .ok (.ifCond .ne 10, 3) := by decide +kernel
theorem dX6_kinds_186 : decode cX6_kinds 186 = .ok (.aload_n 0, 1) := by decide +kernel
theorem dX6_kinds_187 : decode cX6_kinds 187 = .ok (.bipush (-5), 2) := by decide +kernel
theorem dX6_kinds_189 : decode cX6_kinds 189 = .ok (.invokevirtual 83, 3) := by decide +kernel
theorem dX6_kinds_192 : decode cX6_kinds 192 = .ok (.ireturn, 1) := by decide +kernel
theorem dX6_kinds_193 : decode cX6_kinds 193 = .ok (.aload_n 0, 1) := by decide +kernel
theorem dX6_kinds_194 : decode cX6_kinds 194 = .ok (.getfield 13, 3) := by decide +kernel
theorem dX6_kinds_197 : decode cX6_kinds 197 = .ok (.iload 4, 2) := by decide +kernel
theorem dX6_kinds_199 : decode cX6_kinds 199 = .ok (.iaload, 1) := by decide +kernel
theorem dX6_kinds_200 : decode cX6_kinds 200 = .ok (.istore 6, 2) := by decide +kernel
theorem dX6_kinds_202 : decode cX6_kinds 202 = .ok (.iconst 0, 1) := by decide +kernel
theorem dX6_kinds_203 : decode cX6_kinds 203 = .ok (.istore 7, 2) := by decide +kernel
theorem dX6_kinds_205 : decode cX6_kinds 205 = .ok (.aload_n 0, 1) := by decide +kernel
theorem dX6_kinds_206 : decode cX6_kinds 206 = .ok (.iconst 0, 1) := by decide +kernel
theorem dX6_kinds_207 : decode cX6_kinds 207 = .ok (.invokevirtual 104, 3) := by decide +kernel
theorem dX6_kinds_210 : decode cX6_kinds 210 = .ok (.iconst 0, 1) := by decide +kernel
theorem dX6_kinds_211 : decode cX6_kinds 211 = .ok (.istore 8, 2) := by decide +kernel
theorem dX6_kinds_213 : decode cX6_kinds 213 = .ok (.iload 8, 2) := by decide +kernel
theorem dX6_kinds_215 : decode cX6_kinds 215 = .ok (.bipush 6, 2) := by decide +kernel
theorem dX6_kinds_217 : decode cX6_kinds 217 = .ok (.if_icmp .ge 44, 3) := by decide +kernel
theorem dX6_kinds_220 : decode cX6_kinds 220 = .ok (.aload_n 0, 1) := by decide +kernel
theorem dX6_kinds_221 : decode cX6_kinds 221 = .ok (.getfield 13, 3) := by decide +kernel
theorem dX6_kinds_224 : decode cX6_kinds 224 = .ok (.iload 4, 2) := by decide +kernel
theorem dX6_kinds_226 : decode cX6_kinds 226 = .ok (.iload 8, 2) := by decide +kernel
theorem dX6_kinds_228 : decode cX6_kinds 228 = .ok (.iastore, 1) := by decide +kernel
theorem dX6_kinds_229 : decode cX6_kinds 229 = .ok (.aload_n 0, 1) := by decide +kernel
theorem dX6_kinds_230 : decode cX6_kinds 230 = .ok (.iload_n 1, 1) := by decide +kernel
theorem dX6_kinds_231 : decode cX6_kinds 231 = .ok (.iload_n 2, 1) := by decide +kernel
theorem dX6_kinds_232 : decode cX6_kinds 232 = .ok (.iload_n 3, 1) := by decide +kernel
theorem dX6_kinds_233 : decode cX6_kinds 233 = .ok (.iload 4, 2) := by decide +kernel
theorem dX6_kinds_235 : decode cX6_kinds 235 = .ok (.invokevirtual 292, 3) := by decide +kernel
theorem dX6_kinds_238 : decode cX6_kinds 238 = .ok (.ifCond .eq 12, 3) := by decide +kernel
theorem dX6_kinds_241 : decode cX6_kinds 241 = .ok (.iload 7, 2) := by decide +kernel
theorem dX6_kinds_243 : decode cX6_kinds 243 = .ok (.iconst 1, 1) := by decide +kernel
theorem dX6_kinds_244 : decode cX6_kinds 244 = .ok (.iload 8, 2) := by decide +kernel
theorem dX6_kinds_246 : decode cX6_kinds 246 = .ok (.ishl, 1) := by decide +kernel
theorem dX6_kinds_247 : decode cX6_kinds 247 = .ok (.ior, 1) := by decide +kernel
theorem dX6_kinds_248 : decode cX6_kinds 248 = .ok (.istore 7, 2) := by decide +kernel
theorem dX6_kinds_250 : decode cX6_kinds 250 = .ok (.aload_n 0, 1) := by decide +kernel
theorem dX6_kinds_251 : decode cX6_kinds 251 = .ok (.iconst 0, 1) := by decide +kernel
theorem dX6_kinds_252 : decode cX6_kinds 252 = .ok (.invokevirtual 111, 3) := by decide +kernel
theorem dX6_kinds_255 : decode cX6_kinds 255 = .ok (.iinc 8 1, 3) := by decide +kernel
theorem dX6_kinds_258 : decode cX6_kinds 258 = .ok (.goto (-45), 3) := by decide +kernel
theorem dX6_kinds_261 : decode cX6_kinds 261 = .ok (.aload_n 0, 1) := by decide +kernel
theorem dX6_kinds_262 : decode cX6_kinds 262 = .ok (.getfield 13, 3) := by decide +kernel
theorem dX6_kinds_265 : decode cX6_kinds 265 = .ok (.iload 4, 2) := by decide +kernel
theorem dX6_kinds_267 : decode cX6_kinds 267 = .ok (.iload 6, 2) := by decide +kernel
theorem dX6_kinds_269 : decode cX6_kinds 269 = .ok (.iastore, 1) := by decide +kernel
theorem dX6_kinds_270 : decode cX6_kinds 270 = .ok (.iload 7, 2) := by decide +kernel
theorem dX6_kinds_272 : decode cX6_kinds 272 = .ok (.ireturn, 1) := by decide +kernel
theorem dX6_doneAll_0 : decode cX6_doneAll 0 = .ok (.iconst 0, 1) := by decide +kernel
theorem dX6_doneAll_1 : decode cX6_doneAll 1 = .ok (.istore_n 3, 1) := by decide +kernel
theorem dX6_doneAll_2 : decode cX6_doneAll 2 = .ok (.iload_n 3, 1) := by decide +kernel
theorem dX6_doneAll_3 : decode cX6_doneAll 3 = .ok (.iload_n 2, 1) := by decide +kernel
theorem dX6_doneAll_4 : decode cX6_doneAll 4 = .ok (.if_icmp .ge 60, 3) := by decide +kernel
theorem dX6_doneAll_7 : decode cX6_doneAll 7 = .ok (.aload_n 0, 1) := by decide +kernel
theorem dX6_doneAll_8 : decode cX6_doneAll 8 = .ok (.iload_n 1, 1) := by decide +kernel
theorem dX6_doneAll_9 : decode cX6_doneAll 9 = .ok (.iload_n 3, 1) := by decide +kernel
theorem dX6_doneAll_10 : decode cX6_doneAll 10 = .ok (.invokevirtual 256, 3) := by decide +kernel
theorem dX6_doneAll_13 : decode cX6_doneAll 13 = .ok (.lconst 0, 1) := by decide +kernel
theorem dX6_doneAll_14 : decode cX6_doneAll 14 = .ok (.lcmp, 1) := by decide +kernel
theorem dX6_doneAll_15 : decode cX6_doneAll 15 = .ok (.ifCond .lt 30, 3) := by decide +kernel
theorem dX6_doneAll_18 : decode cX6_doneAll 18 = .ok (.aload_n 0, 1) := by decide +kernel
theorem dX6_doneAll_19 : decode cX6_doneAll 19 = .ok (.iload_n 1, 1) := by decide +kernel
theorem dX6_doneAll_20 : decode cX6_doneAll 20 = .ok (.iload_n 3, 1) := by decide +kernel
theorem dX6_doneAll_21 : decode cX6_doneAll 21 = .ok (.invokevirtual 256, 3) := by decide +kernel
theorem dX6_doneAll_24 : decode cX6_doneAll 24 = .ok (.ldc2_w 260, 3) := by decide +kernel
theorem dX6_doneAll_27 : decode cX6_doneAll 27 = .ok (.lcmp, 1) := by decide +kernel
theorem dX6_doneAll_28 : decode cX6_doneAll 28 = .ok (.ifCond .gt 17, 3) := by decide +kernel
theorem dX6_doneAll_31 : decode cX6_doneAll 31 = .ok (.aload_n 0, 1) := by decide +kernel
theorem dX6_doneAll_32 : decode cX6_doneAll 32 = .ok (.aload_n 0, 1) := by decide +kernel
theorem dX6_doneAll_33 : decode cX6_doneAll 33 = .ok (.iload_n 1, 1) := by decide +kernel
theorem dX6_doneAll_34 : decode cX6_doneAll 34 = .ok (.iload_n 3, 1) := by decide +kernel
theorem dX6_doneAll_35 : decode cX6_doneAll 35 = .ok (.invokevirtual 256, 3) := by decide +kernel
theorem dX6_doneAll_38 : decode cX6_doneAll 38 = .ok (.l2i, 1) := by decide +kernel
theorem dX6_doneAll_39 : decode cX6_doneAll 39 = .ok (.invokevirtual 232, 3) := by decide +kernel
theorem dX6_doneAll_42 : decode cX6_doneAll 42 = .ok (.ifCond .ne 5, 3) := by decide +kernel
theorem dX6_doneAll_45 : decode cX6_doneAll 45 = .ok (.iload_n 3, 1) := by decide +kernel
theorem dX6_doneAll_46 : decode cX6_doneAll 46 = .ok (.ireturn, 1) := by decide +kernel
theorem dX6_doneAll_47 : decode cX6_doneAll 47 = .ok (.aload_n 0, 1) := by decide +kernel
theorem dX6_doneAll_48 : decode cX6_doneAll 48 = .ok (.aload_n 0, 1) := by decide +kernel
theorem dX6_doneAll_49 : decode cX6_doneAll 49 = .ok (.iload_n 1, 1) := by decide +kernel
theorem dX6_doneAll_50 : decode cX6_doneAll 50 = .ok (.iload_n 3, 1) := by decide +kernel
theorem dX6_doneAll_51 : decode cX6_doneAll 51 = .ok (.invokevirtual 256, 3) := by decide +kernel
theorem dX6_doneAll_54 : decode cX6_doneAll 54 = .ok (.l2i, 1) := by decide +kernel
theorem dX6_doneAll_55 : decode cX6_doneAll 55 = .ok (.invokevirtual 238, 3) := by decide +kernel
theorem dX6_doneAll_58 : decode cX6_doneAll 58 = .ok (.iinc 3 1, 3) := by decide +kernel
theorem dX6_doneAll_61 : decode cX6_doneAll 61 = .ok (.goto (-59), 3) := by decide +kernel
theorem dX6_doneAll_64 : decode cX6_doneAll 64 = .ok (.iconst (-1), 1) := by decide +kernel
theorem dX6_doneAll_65 : decode cX6_doneAll 65 = .ok (.ireturn, 1) := by decide +kernel
theorem dX6_judge_0 : decode cX6_judge 0 = .ok (.iload_n 1, 1) := by decide +kernel
theorem dX6_judge_1 : decode cX6_judge 1 = .ok (.invokestatic 79, 3) := by decide +kernel
theorem dX6_judge_4 : decode cX6_judge 4 = .ok (.ifCond .eq 13, 3) := by decide +kernel
theorem dX6_judge_7 : decode cX6_judge 7 = .ok (.iload_n 2, 1) := by decide +kernel
theorem dX6_judge_8 : decode cX6_judge 8 = .ok (.iconst 0, 1) := by decide +kernel
theorem dX6_judge_9 : decode cX6_judge 9 = .ok (.bipush 40, 2) := by decide +kernel
theorem dX6_judge_11 : decode cX6_judge 11 = .ok (.invokestatic 75, 3) := by decide +kernel
theorem dX6_judge_14 : decode cX6_judge 14 = .ok (.ifCond .ne 10, 3) := by decide +kernel
theorem dX6_judge_17 : decode cX6_judge 17 = .ok (.aload_n 0, 1) := by decide +kernel
theorem dX6_judge_18 : decode cX6_judge 18 = .ok (.bipush (-2), 2) := by decide +kernel
theorem dX6_judge_20 : decode cX6_judge 20 = .ok (.invokevirtual 83, 3) := by decide +kernel
theorem dX6_judge_23 : decode cX6_judge 23 = .ok (.ireturn, 1) := by decide +kernel
theorem dX6_judge_24 : decode cX6_judge 24 = .ok (.aload_n 0, 1) := by decide +kernel
theorem dX6_judge_25 : decode cX6_judge 25 = .ok (.iload_n 1, 1) := by decide +kernel
theorem dX6_judge_26 : decode cX6_judge 26 = .ok (.iload_n 2, 1) := by decide +kernel
theorem dX6_judge_27 : decode cX6_judge 27 = .ok (.invokevirtual 253, 3) := by decide +kernel
theorem dX6_judge_30 : decode cX6_judge 30 = .ok (.istore_n 3, 1) := by decide +kernel
theorem dX6_judge_31 : decode cX6_judge 31 = .ok (.iload_n 3, 1) := by decide +kernel
theorem dX6_judge_32 : decode cX6_judge 32 = .ok (.ifCond .ge 9, 3) := by decide +kernel
theorem dX6_judge_35 : decode cX6_judge 35 = .ok (.aload_n 0, 1) := by decide +kernel
theorem dX6_judge_36 : decode cX6_judge 36 = .ok (.iload_n 3, 1) := by decide +kernel
theorem dX6_judge_37 : decode cX6_judge 37 = .ok (.invokevirtual 83, 3) := by decide +kernel
theorem dX6_judge_40 : decode cX6_judge 40 = .ok (.ireturn, 1) := by decide +kernel
theorem dX6_judge_41 : decode cX6_judge 41 = .ok (.aload_n 0, 1) := by decide +kernel
theorem dX6_judge_42 : decode cX6_judge 42 = .ok (.iconst 0, 1) := by decide +kernel
theorem dX6_judge_43 : decode cX6_judge 43 = .ok (.invokevirtual 104, 3) := by decide +kernel
theorem dX6_judge_46 : decode cX6_judge 46 = .ok (.aload_n 0, 1) := by decide +kernel
theorem dX6_judge_47 : decode cX6_judge 47 = .ok (.iload_n 1, 1) := by decide +kernel
theorem dX6_judge_48 : decode cX6_judge 48 = .ok (.iload_n 2, 1) := by decide +kernel
theorem dX6_judge_49 : decode cX6_judge 49 = .ok (.invokevirtual 296, 3) := by decide +kernel
theorem dX6_judge_52 : decode cX6_judge 52 = .ok (.istore 4, 2) := by decide +kernel
theorem dX6_judge_54 : decode cX6_judge 54 = .ok (.aload_n 0, 1) := by decide +kernel
theorem dX6_judge_55 : decode cX6_judge 55 = .ok (.iconst 0, 1) := by decide +kernel
theorem dX6_judge_56 : decode cX6_judge 56 = .ok (.invokevirtual 111, 3) := by decide +kernel
theorem dX6_judge_59 : decode cX6_judge 59 = .ok (.iload 4, 2) := by decide +kernel
theorem dX6_judge_61 : decode cX6_judge 61 = .ok (.ireturn, 1) := by decide +kernel
theorem dX6_behind_0 : decode cX6_behind 0 = .ok (.iload_n 1, 1) := by decide +kernel
theorem dX6_behind_1 : decode cX6_behind 1 = .ok (.invokestatic 79, 3) := by decide +kernel
theorem dX6_behind_4 : decode cX6_behind 4 = .ok (.ifCond .eq 44, 3) := by decide +kernel
theorem dX6_behind_7 : decode cX6_behind 7 = .ok (.iload_n 2, 1) := by decide +kernel
theorem dX6_behind_8 : decode cX6_behind 8 = .ok (.iconst 0, 1) := by decide +kernel
theorem dX6_behind_9 : decode cX6_behind 9 = .ok (.bipush 40, 2) := by decide +kernel
theorem dX6_behind_11 : decode cX6_behind 11 = .ok (.invokestatic 75, 3) := by decide +kernel
theorem dX6_behind_14 : decode cX6_behind 14 = .ok (.ifCond .eq 34, 3) := by decide +kernel
theorem dX6_behind_17 : decode cX6_behind 17 = .ok (.iload_n 3, 1) := by decide +kernel
theorem dX6_behind_18 : decode cX6_behind 18 = .ok (.iconst 0, 1) := by decide +kernel
theorem dX6_behind_19 : decode cX6_behind 19 = .ok (.iconst 2, 1) := by decide +kernel
theorem dX6_behind_20 : decode cX6_behind 20 = .ok (.invokestatic 75, 3) := by decide +kernel
theorem dX6_behind_23 : decode cX6_behind 23 = .ok (.ifCond .ne 32, 3) := by decide +kernel
theorem dX6_behind_26 : decode cX6_behind 26 = .ok (.iload_n 3, 1) := by decide +kernel
theorem dX6_behind_27 : decode cX6_behind 27 = .ok (.bipush 10, 2) := by decide +kernel
theorem dX6_behind_29 : decode cX6_behind 29 = .ok (.bipush 14, 2) := by decide +kernel
theorem dX6_behind_31 : decode cX6_behind 31 = .ok (.invokestatic 75, 3) := by decide +kernel
theorem dX6_behind_34 : decode cX6_behind 34 = .ok (.ifCond .eq 14, 3) := by decide +kernel
theorem dX6_behind_37 : decode cX6_behind 37 = .ok (.aload_n 0, 1) := by decide +kernel
theorem dX6_behind_38 : decode cX6_behind 38 = .ok (.iload_n 3, 1) := by decide +kernel
theorem dX6_behind_39 : decode cX6_behind 39 = .ok (.bipush 10, 2) := by decide +kernel
theorem dX6_behind_41 : decode cX6_behind 41 = .ok (.isub, 1) := by decide +kernel
theorem dX6_behind_42 : decode cX6_behind 42 = .ok (.invokevirtual 97, 3) := by decide +kernel
theorem dX6_behind_45 : decode cX6_behind 45 = .ok (.ifCond .ne 10, 3) := by decide +kernel
theorem dX6_behind_48 : decode cX6_behind 48 = .ok (.aload_n 0, 1) := by decide +kernel
theorem dX6_behind_49 : decode cX6_behind 49 = .ok (.bipush (-2), 2) := by decide +kernel
theorem dX6_behind_51 : decode cX6_behind 51 = .ok (.invokevirtual 83, 3) := by decide +kernel
theorem dX6_behind_54 : decode cX6_behind 54 = .ok (.ireturn, 1) := by decide +kernel
theorem dX6_behind_55 : decode cX6_behind 55 = .ok (.aload_n 0, 1) := by decide +kernel
theorem dX6_behind_56 : decode cX6_behind 56 = .ok (.iload_n 1, 1) := by decide +kernel
theorem dX6_behind_57 : decode cX6_behind 57 = .ok (.iload_n 2, 1) := by decide +kernel
theorem dX6_behind_58 : decode cX6_behind 58 = .ok (.invokevirtual 253, 3) := by decide +kernel
theorem dX6_behind_61 : decode cX6_behind 61 = .ok (.istore 4, 2) := by decide +kernel
theorem dX6_behind_63 : decode cX6_behind 63 = .ok (.iload 4, 2) := by decide +kernel
theorem dX6_behind_65 : decode cX6_behind 65 = .ok (.ifCond .ge 10, 3) := by decide +kernel
theorem dX6_behind_68 : decode cX6_behind 68 = .ok (.aload_n 0, 1) := by decide +kernel
theorem dX6_behind_69 : decode cX6_behind 69 = .ok (.iload 4, 2) := by decide +kernel
theorem dX6_behind_71 : decode cX6_behind 71 = .ok (.invokevirtual 83, 3) := by decide +kernel
theorem dX6_behind_74 : decode cX6_behind 74 = .ok (.ireturn, 1) := by decide +kernel
theorem dX6_behind_75 : decode cX6_behind 75 = .ok (.aload_n 0, 1) := by decide +kernel
theorem dX6_behind_76 : decode cX6_behind 76 = .ok (.iconst 0, 1) := by decide +kernel
theorem dX6_behind_77 : decode cX6_behind 77 = .ok (.invokevirtual 104, 3) := by decide +kernel
theorem dX6_behind_80 : decode cX6_behind 80 = .ok (.aload_n 0, 1) := by decide +kernel
theorem dX6_behind_81 : decode cX6_behind 81 = .ok (.iload_n 1, 1) := by decide +kernel
theorem dX6_behind_82 : decode cX6_behind 82 = .ok (.iload_n 2, 1) := by decide +kernel
theorem dX6_behind_83 : decode cX6_behind 83 = .ok (.invokevirtual 296, 3) := by decide +kernel
theorem dX6_behind_86 : decode cX6_behind 86 = .ok (.istore 5, 2) := by decide +kernel
theorem dX6_behind_88 : decode cX6_behind 88 = .ok (.iload_n 3, 1) := by decide +kernel
theorem dX6_behind_89 : decode cX6_behind 89 = .ok (.ifCond .ne 10, 3) := by decide +kernel
theorem dX6_behind_92 : decode cX6_behind 92 = .ok (.aload_n 0, 1) := by decide +kernel
theorem dX6_behind_93 : decode cX6_behind 93 = .ok (.invokevirtual 135, 3) := by decide +kernel
theorem dX6_behind_96 : decode cX6_behind 96 = .ok (.goto 36, 3) := by decide +kernel
theorem dX6_behind_99 : decode cX6_behind 99 = .ok (.iload_n 3, 1) := by decide +kernel
theorem dX6_behind_100 : decode cX6_behind 100 = .ok (.iconst 1, 1) := by decide +kernel
theorem dX6_behind_101 : decode cX6_behind 101 = .ok (.if_icmp .ne 10, 3) := by decide +kernel
theorem dX6_behind_104 : decode cX6_behind 104 = .ok (.aload_n 0, 1) := by decide +kernel
theorem dX6_behind_105 : decode cX6_behind 105 = .ok (.getfield 61, 3) := by decide +kernel
theorem dX6_behind_108 : decode cX6_behind 108 = .ok (.goto 24, 3) := by decide +kernel
theorem dX6_behind_111 : decode cX6_behind 111 = .ok (.iload_n 3, 1) := by decide +kernel
theorem dX6_behind_112 : decode cX6_behind 112 = .ok (.iconst 2, 1) := by decide +kernel
theorem dX6_behind_113 : decode cX6_behind 113 = .ok (.if_icmp .ne 10, 3) := by decide +kernel
theorem dX6_behind_116 : decode cX6_behind 116 = .ok (.aload_n 0, 1) := by decide +kernel
theorem dX6_behind_117 : decode cX6_behind 117 = .ok (.invokevirtual 269, 3) := by decide +kernel
theorem dX6_behind_120 : decode cX6_behind 120 = .ok (.goto 12, 3) := by decide +kernel
theorem dX6_behind_123 : decode cX6_behind 123 = .ok (.aload_n 0, 1) := by decide +kernel
theorem dX6_behind_124 : decode cX6_behind 124 = .ok (.getfield 20, 3) := by decide +kernel
theorem dX6_behind_127 : decode cX6_behind 127 = .ok (.iload_n 3, 1) := by decide +kernel
theorem dX6_behind_128 : decode cX6_behind 128 = .ok (.bipush 10, 2) := by decide +kernel
theorem dX6_behind_130 : decode cX6_behind 130 = .ok (.isub, 1) := by decide +kernel
theorem dX6_behind_131 : decode cX6_behind 131 = .ok (.iaload, 1) := by decide +kernel
theorem dX6_behind_132 : decode cX6_behind 132 = .ok (.istore 6, 2) := by decide +kernel
theorem dX6_behind_134 : decode cX6_behind 134 = .ok (.aload_n 0, 1) := by decide +kernel
theorem dX6_behind_135 : decode cX6_behind 135 = .ok (.iconst 0, 1) := by decide +kernel
theorem dX6_behind_136 : decode cX6_behind 136 = .ok (.invokevirtual 111, 3) := by decide +kernel
theorem dX6_behind_139 : decode cX6_behind 139 = .ok (.iload 5, 2) := by decide +kernel
theorem dX6_behind_141 : decode cX6_behind 141 = .ok (.iconst (-1), 1) := by decide +kernel
theorem dX6_behind_142 : decode cX6_behind 142 = .ok (.if_icmp .ne 8, 3) := by decide +kernel
theorem dX6_behind_145 : decode cX6_behind 145 = .ok (.iload 6, 2) := by decide +kernel
theorem dX6_behind_147 : decode cX6_behind 147 = .ok (.goto 9, 3) := by decide +kernel
theorem dX6_behind_150 : decode cX6_behind 150 = .ok (.aload_n 0, 1) := by decide +kernel
theorem dX6_behind_151 : decode cX6_behind 151 = .ok (.bipush (-5), 2) := by decide +kernel
theorem dX6_behind_153 : decode cX6_behind 153 = .ok (.invokevirtual 83, 3) := by decide +kernel
theorem dX6_behind_156 : decode cX6_behind 156 = .ok (.ireturn, 1) := by decide +kernel
theorem dX6_done_0 : decode cX6_done 0 = .ok (.iload_n 1, 1) := by decide +kernel
theorem dX6_done_1 : decode cX6_done 1 = .ok (.invokestatic 79, 3) := by decide +kernel
theorem dX6_done_4 : decode cX6_done 4 = .ok (.ifCond .eq 13, 3) := by decide +kernel
theorem dX6_done_7 : decode cX6_done 7 = .ok (.iload_n 2, 1) := by decide +kernel
theorem dX6_done_8 : decode cX6_done 8 = .ok (.iconst 0, 1) := by decide +kernel
theorem dX6_done_9 : decode cX6_done 9 = .ok (.bipush 40, 2) := by decide +kernel
theorem dX6_done_11 : decode cX6_done 11 = .ok (.invokestatic 75, 3) := by decide +kernel
theorem dX6_done_14 : decode cX6_done 14 = .ok (.ifCond .ne 10, 3) := by decide +kernel
theorem dX6_done_17 : decode cX6_done 17 = .ok (.aload_n 0, 1) := by decide +kernel
theorem dX6_done_18 : decode cX6_done 18 = .ok (.bipush (-2), 2) := by decide +kernel
theorem dX6_done_20 : decode cX6_done 20 = .ok (.invokevirtual 83, 3) := by decide +kernel
theorem dX6_done_23 : decode cX6_done 23 = .ok (.ireturn, 1) := by decide +kernel
theorem dX6_done_24 : decode cX6_done 24 = .ok (.aload_n 0, 1) := by decide +kernel
theorem dX6_done_25 : decode cX6_done 25 = .ok (.iload_n 1, 1) := by decide +kernel
theorem dX6_done_26 : decode cX6_done 26 = .ok (.iload_n 2, 1) := by decide +kernel
theorem dX6_done_27 : decode cX6_done 27 = .ok (.invokevirtual 253, 3) := by decide +kernel
theorem dX6_done_30 : decode cX6_done 30 = .ok (.istore_n 3, 1) := by decide +kernel
theorem dX6_done_31 : decode cX6_done 31 = .ok (.iload_n 3, 1) := by decide +kernel
theorem dX6_done_32 : decode cX6_done 32 = .ok (.ifCond .ge 9, 3) := by decide +kernel
theorem dX6_done_35 : decode cX6_done 35 = .ok (.aload_n 0, 1) := by decide +kernel
theorem dX6_done_36 : decode cX6_done 36 = .ok (.iload_n 3, 1) := by decide +kernel
theorem dX6_done_37 : decode cX6_done 37 = .ok (.invokevirtual 83, 3) := by decide +kernel
theorem dX6_done_40 : decode cX6_done 40 = .ok (.ireturn, 1) := by decide +kernel
theorem dX6_done_41 : decode cX6_done 41 = .ok (.aload_n 0, 1) := by decide +kernel
theorem dX6_done_42 : decode cX6_done 42 = .ok (.iconst 0, 1) := by decide +kernel
theorem dX6_done_43 : decode cX6_done 43 = .ok (.invokevirtual 104, 3) := by decide +kernel
theorem dX6_done_46 : decode cX6_done 46 = .ok (.aload_n 0, 1) := by decide +kernel
theorem dX6_done_47 : decode cX6_done 47 = .ok (.iload_n 1, 1) := by decide +kernel
theorem dX6_done_48 : decode cX6_done 48 = .ok (.iload_n 2, 1) := by decide +kernel
theorem dX6_done_49 : decode cX6_done 49 = .ok (.invokevirtual 296, 3) := by decide +kernel
theorem dX6_done_52 : decode cX6_done 52 = .ok (.iconst (-1), 1) := by decide +kernel
theorem dX6_done_53 : decode cX6_done 53 = .ok (.if_icmp .eq 15, 3) := by decide +kernel
theorem dX6_done_56 : decode cX6_done 56 = .ok (.aload_n 0, 1) := by decide +kernel
theorem dX6_done_57 : decode cX6_done 57 = .ok (.iconst 0, 1) := by decide +kernel
theorem dX6_done_58 : decode cX6_done 58 = .ok (.invokevirtual 111, 3) := by decide +kernel
theorem dX6_done_61 : decode cX6_done 61 = .ok (.aload_n 0, 1) := by decide +kernel
theorem dX6_done_62 : decode cX6_done 62 = .ok (.bipush (-5), 2) := by decide +kernel
theorem dX6_done_64 : decode cX6_done 64 = .ok (.invokevirtual 83, 3) := by decide +kernel
theorem dX6_done_67 : decode cX6_done 67 = .ok (.ireturn, 1) := by decide +kernel
theorem dX6_done_68 : decode cX6_done 68 = .ok (.aload_n 0, 1) := by decide +kernel
theorem dX6_done_69 : decode cX6_done 69 = .ok (.dup, 1) := by decide +kernel
theorem dX6_done_70 : decode cX6_done 70 = .ok (.getfield 299, 3) := by decide +kernel
theorem dX6_done_73 : decode cX6_done 73 = .ok (.iload_n 2, 1) := by decide +kernel
theorem dX6_done_74 : decode cX6_done 74 = .ok (.iadd, 1) := by decide +kernel
theorem dX6_done_75 : decode cX6_done 75 = .ok (.putfield 299, 3) := by decide +kernel
theorem dX6_done_78 : decode cX6_done 78 = .ok (.aload_n 0, 1) := by decide +kernel
theorem dX6_done_79 : decode cX6_done 79 = .ok (.invokevirtual 135, 3) := by decide +kernel
theorem dX6_done_82 : decode cX6_done 82 = .ok (.ireturn, 1) := by decide +kernel
theorem dX6_turn_0 : decode cX6_turn 0 = .ok (.iload_n 1, 1) := by decide +kernel
theorem dX6_turn_1 : decode cX6_turn 1 = .ok (.iconst 0, 1) := by decide +kernel
theorem dX6_turn_2 : decode cX6_turn 2 = .ok (.iconst 4, 1) := by decide +kernel
theorem dX6_turn_3 : decode cX6_turn 3 = .ok (.invokestatic 75, 3) := by decide +kernel
theorem dX6_turn_6 : decode cX6_turn 6 = .ok (.ifCond .ne 10, 3) := by decide +kernel
theorem dX6_turn_9 : decode cX6_turn 9 = .ok (.aload_n 0, 1) := by decide +kernel
theorem dX6_turn_10 : decode cX6_turn 10 = .ok (.bipush (-2), 2) := by decide +kernel
theorem dX6_turn_12 : decode cX6_turn 12 = .ok (.invokevirtual 83, 3) := by decide +kernel
theorem dX6_turn_15 : decode cX6_turn 15 = .ok (.ireturn, 1) := by decide +kernel
theorem dX6_turn_16 : decode cX6_turn 16 = .ok (.aload_n 0, 1) := by decide +kernel
theorem dX6_turn_17 : decode cX6_turn 17 = .ok (.iload_n 1, 1) := by decide +kernel
theorem dX6_turn_18 : decode cX6_turn 18 = .ok (.invokevirtual 232, 3) := by decide +kernel
theorem dX6_turn_21 : decode cX6_turn 21 = .ok (.ifCond .ne 10, 3) := by decide +kernel
theorem dX6_turn_24 : decode cX6_turn 24 = .ok (.aload_n 0, 1) := by decide +kernel
theorem dX6_turn_25 : decode cX6_turn 25 = .ok (.bipush (-5), 2) := by decide +kernel
theorem dX6_turn_27 : decode cX6_turn 27 = .ok (.invokevirtual 83, 3) := by decide +kernel
theorem dX6_turn_30 : decode cX6_turn 30 = .ok (.ireturn, 1) := by decide +kernel
theorem dX6_turn_31 : decode cX6_turn 31 = .ok (.aload_n 0, 1) := by decide +kernel
theorem dX6_turn_32 : decode cX6_turn 32 = .ok (.iload_n 1, 1) := by decide +kernel
theorem dX6_turn_33 : decode cX6_turn 33 = .ok (.invokevirtual 238, 3) := by decide +kernel
theorem dX6_turn_36 : decode cX6_turn 36 = .ok (.aload_n 0, 1) := by decide +kernel
theorem dX6_turn_37 : decode cX6_turn 37 = .ok (.dup, 1) := by decide +kernel
theorem dX6_turn_38 : decode cX6_turn 38 = .ok (.getfield 299, 3) := by decide +kernel
theorem dX6_turn_41 : decode cX6_turn 41 = .ok (.iconst 1, 1) := by decide +kernel
theorem dX6_turn_42 : decode cX6_turn 42 = .ok (.iadd, 1) := by decide +kernel
theorem dX6_turn_43 : decode cX6_turn 43 = .ok (.putfield 299, 3) := by decide +kernel
theorem dX6_turn_46 : decode cX6_turn 46 = .ok (.aload_n 0, 1) := by decide +kernel
theorem dX6_turn_47 : decode cX6_turn 47 = .ok (.invokevirtual 135, 3) := by decide +kernel
theorem dX6_turn_50 : decode cX6_turn 50 = .ok (.ireturn, 1) := by decide +kernel
theorem dX6_draw_0 : decode cX6_draw 0 = .ok (.aload_n 0, 1) := by decide +kernel
theorem dX6_draw_1 : decode cX6_draw 1 = .ok (.aload_n 0, 1) := by decide +kernel
theorem dX6_draw_2 : decode cX6_draw 2 = .ok (.getfield 67, 3) := by decide +kernel
theorem dX6_draw_5 : decode cX6_draw 5 = .ok (.ldc_w 302, 3) := by decide +kernel
theorem dX6_draw_8 : decode cX6_draw 8 = .ok (.imul, 1) := by decide +kernel
theorem dX6_draw_9 : decode cX6_draw 9 = .ok (.sipush 12345, 3) := by decide +kernel
theorem dX6_draw_12 : decode cX6_draw 12 = .ok (.iadd, 1) := by decide +kernel
theorem dX6_draw_13 : decode cX6_draw 13 = .ok (.putfield 67, 3) := by decide +kernel
theorem dX6_draw_16 : decode cX6_draw 16 = .ok (.aload_n 0, 1) := by decide +kernel
theorem dX6_draw_17 : decode cX6_draw 17 = .ok (.getfield 67, 3) := by decide +kernel
theorem dX6_draw_20 : decode cX6_draw 20 = .ok (.bipush 16, 2) := by decide +kernel
theorem dX6_draw_22 : decode cX6_draw 22 = .ok (.iushr, 1) := by decide +kernel
theorem dX6_draw_23 : decode cX6_draw 23 = .ok (.iload_n 1, 1) := by decide +kernel
theorem dX6_draw_24 : decode cX6_draw 24 = .ok (.irem, 1) := by decide +kernel
theorem dX6_draw_25 : decode cX6_draw 25 = .ok (.ireturn, 1) := by decide +kernel
theorem dX6_evening_0 : decode cX6_evening 0 = .ok (.iload_n 1, 1) := by decide +kernel
theorem dX6_evening_1 : decode cX6_evening 1 = .ok (.iconst 1, 1) := by decide +kernel
theorem dX6_evening_2 : decode cX6_evening 2 = .ok (.bipush 60, 2) := by decide +kernel
theorem dX6_evening_4 : decode cX6_evening 4 = .ok (.invokestatic 75, 3) := by decide +kernel
theorem dX6_evening_7 : decode cX6_evening 7 = .ok (.ifCond .ne 10, 3) := by decide +kernel
theorem dX6_evening_10 : decode cX6_evening 10 = .ok (.aload_n 0, 1) := by decide +kernel
theorem dX6_evening_11 : decode cX6_evening 11 = .ok (.bipush (-2), 2) := by decide +kernel
theorem dX6_evening_13 : decode cX6_evening 13 = .ok (.invokevirtual 83, 3) := by decide +kernel
theorem dX6_evening_16 : decode cX6_evening 16 = .ok (.ireturn, 1) := by decide +kernel
theorem dX6_evening_17 : decode cX6_evening 17 = .ok (.aload_n 0, 1) := by decide +kernel
theorem dX6_evening_18 : decode cX6_evening 18 = .ok (.invokevirtual 135, 3) := by decide +kernel
theorem dX6_evening_21 : decode cX6_evening 21 = .ok (.istore_n 2, 1) := by decide +kernel
theorem dX6_evening_22 : decode cX6_evening 22 = .ok (.iconst 0, 1) := by decide +kernel
theorem dX6_evening_23 : decode cX6_evening 23 = .ok (.istore_n 3, 1) := by decide +kernel
theorem dX6_evening_24 : decode cX6_evening 24 = .ok (.iload_n 3, 1) := by decide +kernel
theorem dX6_evening_25 : decode cX6_evening 25 = .ok (.iload_n 1, 1) := by decide +kernel
theorem dX6_evening_26 : decode cX6_evening 26 = .ok (.if_icmp .ge 52, 3) := by decide +kernel
theorem dX6_evening_29 : decode cX6_evening 29 = .ok (.aload_n 0, 1) := by decide +kernel
theorem dX6_evening_30 : decode cX6_evening 30 = .ok (.iconst 5, 1) := by decide +kernel
theorem dX6_evening_31 : decode cX6_evening 31 = .ok (.invokevirtual 303, 3) := by decide +kernel
theorem dX6_evening_34 : decode cX6_evening 34 = .ok (.istore 4, 2) := by decide +kernel
theorem dX6_evening_36 : decode cX6_evening 36 = .ok (.aload_n 0, 1) := by decide +kernel
theorem dX6_evening_37 : decode cX6_evening 37 = .ok (.aload_n 0, 1) := by decide +kernel
theorem dX6_evening_38 : decode cX6_evening 38 = .ok (.bipush 12, 2) := by decide +kernel
theorem dX6_evening_40 : decode cX6_evening 40 = .ok (.invokevirtual 303, 3) := by decide +kernel
theorem dX6_evening_43 : decode cX6_evening 43 = .ok (.aload_n 0, 1) := by decide +kernel
theorem dX6_evening_44 : decode cX6_evening 44 = .ok (.getfield 64, 3) := by decide +kernel
theorem dX6_evening_47 : decode cX6_evening 47 = .ok (.if_icmp .ge 10, 3) := by decide +kernel
theorem dX6_evening_50 : decode cX6_evening 50 = .ok (.aload_n 0, 1) := by decide +kernel
theorem dX6_evening_51 : decode cX6_evening 51 = .ok (.getfield 235, 3) := by decide +kernel
theorem dX6_evening_54 : decode cX6_evening 54 = .ok (.goto 5, 3) := by decide +kernel
theorem dX6_evening_57 : decode cX6_evening 57 = .ok (.iload 4, 2) := by decide +kernel
theorem dX6_evening_59 : decode cX6_evening 59 = .ok (.invokevirtual 238, 3) := by decide +kernel
theorem dX6_evening_62 : decode cX6_evening 62 = .ok (.aload_n 0, 1) := by decide +kernel
theorem dX6_evening_63 : decode cX6_evening 63 = .ok (.dup, 1) := by decide +kernel
theorem dX6_evening_64 : decode cX6_evening 64 = .ok (.getfield 299, 3) := by decide +kernel
theorem dX6_evening_67 : decode cX6_evening 67 = .ok (.iconst 1, 1) := by decide +kernel
theorem dX6_evening_68 : decode cX6_evening 68 = .ok (.iadd, 1) := by decide +kernel
theorem dX6_evening_69 : decode cX6_evening 69 = .ok (.putfield 299, 3) := by decide +kernel
theorem dX6_evening_72 : decode cX6_evening 72 = .ok (.iinc 3 1, 3) := by decide +kernel
theorem dX6_evening_75 : decode cX6_evening 75 = .ok (.goto (-51), 3) := by decide +kernel
theorem dX6_evening_78 : decode cX6_evening 78 = .ok (.aload_n 0, 1) := by decide +kernel
theorem dX6_evening_79 : decode cX6_evening 79 = .ok (.invokevirtual 135, 3) := by decide +kernel
theorem dX6_evening_82 : decode cX6_evening 82 = .ok (.iload_n 2, 1) := by decide +kernel
theorem dX6_evening_83 : decode cX6_evening 83 = .ok (.isub, 1) := by decide +kernel
theorem dX6_evening_84 : decode cX6_evening 84 = .ok (.ireturn, 1) := by decide +kernel
theorem dX6_seed_0 : decode cX6_seed 0 = .ok (.aload_n 0, 1) := by decide +kernel
theorem dX6_seed_1 : decode cX6_seed 1 = .ok (.getfield 67, 3) := by decide +kernel
theorem dX6_seed_4 : decode cX6_seed 4 = .ok (.istore_n 2, 1) := by decide +kernel
theorem dX6_seed_5 : decode cX6_seed 5 = .ok (.aload_n 0, 1) := by decide +kernel
theorem dX6_seed_6 : decode cX6_seed 6 = .ok (.iload_n 1, 1) := by decide +kernel
theorem dX6_seed_7 : decode cX6_seed 7 = .ok (.putfield 67, 3) := by decide +kernel
theorem dX6_seed_10 : decode cX6_seed 10 = .ok (.iload_n 2, 1) := by decide +kernel
theorem dX6_seed_11 : decode cX6_seed 11 = .ok (.ireturn, 1) := by decide +kernel
theorem dX6_keep_0 : decode cX6_keep 0 = .ok (.iconst 0, 1) := by decide +kernel
theorem dX6_keep_1 : decode cX6_keep 1 = .ok (.istore_n 2, 1) := by decide +kernel
theorem dX6_keep_2 : decode cX6_keep 2 = .ok (.iload_n 2, 1) := by decide +kernel
theorem dX6_keep_3 : decode cX6_keep 3 = .ok (.bipush 67, 2) := by decide +kernel
theorem dX6_keep_5 : decode cX6_keep 5 = .ok (.if_icmp .ge 26, 3) := by decide +kernel
theorem dX6_keep_8 : decode cX6_keep 8 = .ok (.aload_n 1, 1) := by decide +kernel
theorem dX6_keep_9 : decode cX6_keep 9 = .ok (.iload_n 2, 1) := by decide +kernel
theorem dX6_keep_10 : decode cX6_keep 10 = .ok (.aload_n 0, 1) := by decide +kernel
theorem dX6_keep_11 : decode cX6_keep 11 = .ok (.getfield 7, 3) := by decide +kernel
theorem dX6_keep_14 : decode cX6_keep 14 = .ok (.iload_n 2, 1) := by decide +kernel
theorem dX6_keep_15 : decode cX6_keep 15 = .ok (.baload, 1) := by decide +kernel
theorem dX6_keep_16 : decode cX6_keep 16 = .ok (.ifCond .eq 7, 3) := by decide +kernel
theorem dX6_keep_19 : decode cX6_keep 19 = .ok (.iconst 1, 1) := by decide +kernel
theorem dX6_keep_20 : decode cX6_keep 20 = .ok (.goto 4, 3) := by decide +kernel
theorem dX6_keep_23 : decode cX6_keep 23 = .ok (.iconst 0, 1) := by decide +kernel
theorem dX6_keep_24 : decode cX6_keep 24 = .ok (.iastore, 1) := by decide +kernel
theorem dX6_keep_25 : decode cX6_keep 25 = .ok (.iinc 2 1, 3) := by decide +kernel
theorem dX6_keep_28 : decode cX6_keep 28 = .ok (.goto (-26), 3) := by decide +kernel
theorem dX6_keep_31 : decode cX6_keep 31 = .ok (.iconst 0, 1) := by decide +kernel
theorem dX6_keep_32 : decode cX6_keep 32 = .ok (.istore_n 2, 1) := by decide +kernel
theorem dX6_keep_33 : decode cX6_keep 33 = .ok (.iload_n 2, 1) := by decide +kernel
theorem dX6_keep_34 : decode cX6_keep 34 = .ok (.iconst 5, 1) := by decide +kernel
theorem dX6_keep_35 : decode cX6_keep 35 = .ok (.if_icmp .ge 45, 3) := by decide +kernel
theorem dX6_keep_38 : decode cX6_keep 38 = .ok (.aload_n 1, 1) := by decide +kernel
theorem dX6_keep_39 : decode cX6_keep 39 = .ok (.bipush 67, 2) := by decide +kernel
theorem dX6_keep_41 : decode cX6_keep 41 = .ok (.iload_n 2, 1) := by decide +kernel
theorem dX6_keep_42 : decode cX6_keep 42 = .ok (.iadd, 1) := by decide +kernel
theorem dX6_keep_43 : decode cX6_keep 43 = .ok (.aload_n 0, 1) := by decide +kernel
theorem dX6_keep_44 : decode cX6_keep 44 = .ok (.getfield 13, 3) := by decide +kernel
theorem dX6_keep_47 : decode cX6_keep 47 = .ok (.iload_n 2, 1) := by decide +kernel
theorem dX6_keep_48 : decode cX6_keep 48 = .ok (.iaload, 1) := by decide +kernel
theorem dX6_keep_49 : decode cX6_keep 49 = .ok (.iastore, 1) := by decide +kernel
theorem dX6_keep_50 : decode cX6_keep 50 = .ok (.aload_n 1, 1) := by decide +kernel
theorem dX6_keep_51 : decode cX6_keep 51 = .ok (.bipush 72, 2) := by decide +kernel
theorem dX6_keep_53 : decode cX6_keep 53 = .ok (.iload_n 2, 1) := by decide +kernel
theorem dX6_keep_54 : decode cX6_keep 54 = .ok (.iadd, 1) := by decide +kernel
theorem dX6_keep_55 : decode cX6_keep 55 = .ok (.aload_n 0, 1) := by decide +kernel
theorem dX6_keep_56 : decode cX6_keep 56 = .ok (.getfield 17, 3) := by decide +kernel
theorem dX6_keep_59 : decode cX6_keep 59 = .ok (.iload_n 2, 1) := by decide +kernel
theorem dX6_keep_60 : decode cX6_keep 60 = .ok (.iaload, 1) := by decide +kernel
theorem dX6_keep_61 : decode cX6_keep 61 = .ok (.iastore, 1) := by decide +kernel
theorem dX6_keep_62 : decode cX6_keep 62 = .ok (.aload_n 1, 1) := by decide +kernel
theorem dX6_keep_63 : decode cX6_keep 63 = .ok (.bipush 77, 2) := by decide +kernel
theorem dX6_keep_65 : decode cX6_keep 65 = .ok (.iload_n 2, 1) := by decide +kernel
theorem dX6_keep_66 : decode cX6_keep 66 = .ok (.iadd, 1) := by decide +kernel
theorem dX6_keep_67 : decode cX6_keep 67 = .ok (.aload_n 0, 1) := by decide +kernel
theorem dX6_keep_68 : decode cX6_keep 68 = .ok (.getfield 20, 3) := by decide +kernel
theorem dX6_keep_71 : decode cX6_keep 71 = .ok (.iload_n 2, 1) := by decide +kernel
theorem dX6_keep_72 : decode cX6_keep 72 = .ok (.iaload, 1) := by decide +kernel
theorem dX6_keep_73 : decode cX6_keep 73 = .ok (.iastore, 1) := by decide +kernel
theorem dX6_keep_74 : decode cX6_keep 74 = .ok (.iinc 2 1, 3) := by decide +kernel
theorem dX6_keep_77 : decode cX6_keep 77 = .ok (.goto (-44), 3) := by decide +kernel
theorem dX6_keep_80 : decode cX6_keep 80 = .ok (.aload_n 1, 1) := by decide +kernel
theorem dX6_keep_81 : decode cX6_keep 81 = .ok (.bipush 82, 2) := by decide +kernel
theorem dX6_keep_83 : decode cX6_keep 83 = .ok (.aload_n 0, 1) := by decide +kernel
theorem dX6_keep_84 : decode cX6_keep 84 = .ok (.getfield 57, 3) := by decide +kernel
theorem dX6_keep_87 : decode cX6_keep 87 = .ok (.iastore, 1) := by decide +kernel
theorem dX6_keep_88 : decode cX6_keep 88 = .ok (.aload_n 1, 1) := by decide +kernel
theorem dX6_keep_89 : decode cX6_keep 89 = .ok (.bipush 83, 2) := by decide +kernel
theorem dX6_keep_91 : decode cX6_keep 91 = .ok (.aload_n 0, 1) := by decide +kernel
theorem dX6_keep_92 : decode cX6_keep 92 = .ok (.getfield 119, 3) := by decide +kernel
theorem dX6_keep_95 : decode cX6_keep 95 = .ok (.iastore, 1) := by decide +kernel
theorem dX6_keep_96 : decode cX6_keep 96 = .ok (.aload_n 1, 1) := by decide +kernel
theorem dX6_keep_97 : decode cX6_keep 97 = .ok (.bipush 84, 2) := by decide +kernel
theorem dX6_keep_99 : decode cX6_keep 99 = .ok (.aload_n 0, 1) := by decide +kernel
theorem dX6_keep_100 : decode cX6_keep 100 = .ok (.getfield 61, 3) := by decide +kernel
theorem dX6_keep_103 : decode cX6_keep 103 = .ok (.iastore, 1) := by decide +kernel
theorem dX6_keep_104 : decode cX6_keep 104 = .ok (.aload_n 1, 1) := by decide +kernel
theorem dX6_keep_105 : decode cX6_keep 105 = .ok (.bipush 85, 2) := by decide +kernel
theorem dX6_keep_107 : decode cX6_keep 107 = .ok (.aload_n 0, 1) := by decide +kernel
theorem dX6_keep_108 : decode cX6_keep 108 = .ok (.getfield 235, 3) := by decide +kernel
theorem dX6_keep_111 : decode cX6_keep 111 = .ok (.iastore, 1) := by decide +kernel
theorem dX6_keep_112 : decode cX6_keep 112 = .ok (.aload_n 1, 1) := by decide +kernel
theorem dX6_keep_113 : decode cX6_keep 113 = .ok (.bipush 86, 2) := by decide +kernel
theorem dX6_keep_115 : decode cX6_keep 115 = .ok (.aload_n 0, 1) := by decide +kernel
theorem dX6_keep_116 : decode cX6_keep 116 = .ok (.getfield 72, 3) := by decide +kernel
theorem dX6_keep_119 : decode cX6_keep 119 = .ok (.iastore, 1) := by decide +kernel
theorem dX6_keep_120 : decode cX6_keep 120 = .ok (.aload_n 1, 1) := by decide +kernel
theorem dX6_keep_121 : decode cX6_keep 121 = .ok (.bipush 87, 2) := by decide +kernel
theorem dX6_keep_123 : decode cX6_keep 123 = .ok (.aload_n 0, 1) := by decide +kernel
theorem dX6_keep_124 : decode cX6_keep 124 = .ok (.getfield 64, 3) := by decide +kernel
theorem dX6_keep_127 : decode cX6_keep 127 = .ok (.iastore, 1) := by decide +kernel
theorem dX6_keep_128 : decode cX6_keep 128 = .ok (.aload_n 1, 1) := by decide +kernel
theorem dX6_keep_129 : decode cX6_keep 129 = .ok (.bipush 88, 2) := by decide +kernel
theorem dX6_keep_131 : decode cX6_keep 131 = .ok (.aload_n 0, 1) := by decide +kernel
theorem dX6_keep_132 : decode cX6_keep 132 = .ok (.getfield 299, 3) := by decide +kernel
theorem dX6_keep_135 : decode cX6_keep 135 = .ok (.iastore, 1) := by decide +kernel
theorem dX6_keep_136 : decode cX6_keep 136 = .ok (.aload_n 1, 1) := by decide +kernel
theorem dX6_keep_137 : decode cX6_keep 137 = .ok (.bipush 89, 2) := by decide +kernel
theorem dX6_keep_139 : decode cX6_keep 139 = .ok (.aload_n 0, 1) := by decide +kernel
theorem dX6_keep_140 : decode cX6_keep 140 = .ok (.getfield 67, 3) := by decide +kernel
theorem dX6_keep_143 : decode cX6_keep 143 = .ok (.iastore, 1) := by decide +kernel
theorem dX6_keep_144 : decode cX6_keep 144 = .ok (.return_, 1) := by decide +kernel
theorem dX6_keepBack_0 : decode cX6_keepBack 0 = .ok (.iconst 0, 1) := by decide +kernel
theorem dX6_keepBack_1 : decode cX6_keepBack 1 = .ok (.istore_n 2, 1) := by decide +kernel
theorem dX6_keepBack_2 : decode cX6_keepBack 2 = .ok (.iload_n 2, 1) := by decide +kernel
theorem dX6_keepBack_3 : decode cX6_keepBack 3 = .ok (.bipush 67, 2) := by decide +kernel
theorem dX6_keepBack_5 : decode cX6_keepBack 5 = .ok (.if_icmp .ge 27, 3) := by decide +kernel
theorem dX6_keepBack_8 : decode cX6_keepBack 8 = .ok (.aload_n 0, 1) := by decide +kernel
theorem dX6_keepBack_9 : decode cX6_keepBack 9 = .ok (.getfield 7, 3) := by decide +kernel
theorem dX6_keepBack_12 : decode cX6_keepBack 12 = .ok (.iload_n 2, 1) := by decide +kernel
theorem dX6_keepBack_13 : decode cX6_keepBack 13 = .ok (.aload_n 1, 1) := by decide +kernel
theorem dX6_keepBack_14 : decode cX6_keepBack 14 = .ok (.iload_n 2, 1) := by decide +kernel
theorem dX6_keepBack_15 : decode cX6_keepBack 15 = .ok (.iaload, 1) := by decide +kernel
theorem dX6_keepBack_16 : decode cX6_keepBack 16 = .ok (.iconst 1, 1) := by decide +kernel
theorem dX6_keepBack_17 : decode cX6_keepBack 17 = .ok (.if_icmp .ne 7, 3) := by decide +kernel
theorem dX6_keepBack_20 : decode cX6_keepBack 20 = .ok (.iconst 1, 1) := by decide +kernel
theorem dX6_keepBack_21 : decode cX6_keepBack 21 = .ok (.goto 4, 3) := by decide +kernel
theorem dX6_keepBack_24 : decode cX6_keepBack 24 = .ok (.iconst 0, 1) := by decide +kernel
theorem dX6_keepBack_25 : decode cX6_keepBack 25 = .ok (.bastore, 1) := by decide +kernel
theorem dX6_keepBack_26 : decode cX6_keepBack 26 = .ok (.iinc 2 1, 3) := by decide +kernel
theorem dX6_keepBack_29 : decode cX6_keepBack 29 = .ok (.goto (-27), 3) := by decide +kernel
theorem dX6_keepBack_32 : decode cX6_keepBack 32 = .ok (.iconst 0, 1) := by decide +kernel
theorem dX6_keepBack_33 : decode cX6_keepBack 33 = .ok (.istore_n 2, 1) := by decide +kernel
theorem dX6_keepBack_34 : decode cX6_keepBack 34 = .ok (.iload_n 2, 1) := by decide +kernel
theorem dX6_keepBack_35 : decode cX6_keepBack 35 = .ok (.iconst 5, 1) := by decide +kernel
theorem dX6_keepBack_36 : decode cX6_keepBack 36 = .ok (.if_icmp .ge 45, 3) := by decide +kernel
theorem dX6_keepBack_39 : decode cX6_keepBack 39 = .ok (.aload_n 0, 1) := by decide +kernel
theorem dX6_keepBack_40 : decode cX6_keepBack 40 = .ok (.getfield 13, 3) := by decide +kernel
theorem dX6_keepBack_43 : decode cX6_keepBack 43 = .ok (.iload_n 2, 1) := by decide +kernel
theorem dX6_keepBack_44 : decode cX6_keepBack 44 = .ok (.aload_n 1, 1) := by decide +kernel
theorem dX6_keepBack_45 : decode cX6_keepBack 45 = .ok (.bipush 67, 2) := by decide +kernel
theorem dX6_keepBack_47 : decode cX6_keepBack 47 = .ok (.iload_n 2, 1) := by decide +kernel
theorem dX6_keepBack_48 : decode cX6_keepBack 48 = .ok (.iadd, 1) := by decide +kernel
theorem dX6_keepBack_49 : decode cX6_keepBack 49 = .ok (.iaload, 1) := by decide +kernel
theorem dX6_keepBack_50 : decode cX6_keepBack 50 = .ok (.iastore, 1) := by decide +kernel
theorem dX6_keepBack_51 : decode cX6_keepBack 51 = .ok (.aload_n 0, 1) := by decide +kernel
theorem dX6_keepBack_52 : decode cX6_keepBack 52 = .ok (.getfield 17, 3) := by decide +kernel
theorem dX6_keepBack_55 : decode cX6_keepBack 55 = .ok (.iload_n 2, 1) := by decide +kernel
theorem dX6_keepBack_56 : decode cX6_keepBack 56 = .ok (.aload_n 1, 1) := by decide +kernel
theorem dX6_keepBack_57 : decode cX6_keepBack 57 = .ok (.bipush 72, 2) := by decide +kernel
theorem dX6_keepBack_59 : decode cX6_keepBack 59 = .ok (.iload_n 2, 1) := by decide +kernel
theorem dX6_keepBack_60 : decode cX6_keepBack 60 = .ok (.iadd, 1) := by decide +kernel
theorem dX6_keepBack_61 : decode cX6_keepBack 61 = .ok (.iaload, 1) := by decide +kernel
theorem dX6_keepBack_62 : decode cX6_keepBack 62 = .ok (.iastore, 1) := by decide +kernel
theorem dX6_keepBack_63 : decode cX6_keepBack 63 = .ok (.aload_n 0, 1) := by decide +kernel
theorem dX6_keepBack_64 : decode cX6_keepBack 64 = .ok (.getfield 20, 3) := by decide +kernel
theorem dX6_keepBack_67 : decode cX6_keepBack 67 = .ok (.iload_n 2, 1) := by decide +kernel
theorem dX6_keepBack_68 : decode cX6_keepBack 68 = .ok (.aload_n 1, 1) := by decide +kernel
theorem dX6_keepBack_69 : decode cX6_keepBack 69 = .ok (.bipush 77, 2) := by decide +kernel
theorem dX6_keepBack_71 : decode cX6_keepBack 71 = .ok (.iload_n 2, 1) := by decide +kernel
theorem dX6_keepBack_72 : decode cX6_keepBack 72 = .ok (.iadd, 1) := by decide +kernel
theorem dX6_keepBack_73 : decode cX6_keepBack 73 = .ok (.iaload, 1) := by decide +kernel
theorem dX6_keepBack_74 : decode cX6_keepBack 74 = .ok (.iastore, 1) := by decide +kernel
theorem dX6_keepBack_75 : decode cX6_keepBack 75 = .ok (.iinc 2 1, 3) := by decide +kernel
theorem dX6_keepBack_78 : decode cX6_keepBack 78 = .ok (.goto (-44), 3) := by decide +kernel
theorem dX6_keepBack_81 : decode cX6_keepBack 81 = .ok (.aload_n 0, 1) := by decide +kernel
theorem dX6_keepBack_82 : decode cX6_keepBack 82 = .ok (.aload_n 1, 1) := by decide +kernel
theorem dX6_keepBack_83 : decode cX6_keepBack 83 = .ok (.bipush 82, 2) := by decide +kernel
theorem dX6_keepBack_85 : decode cX6_keepBack 85 = .ok (.iaload, 1) := by decide +kernel
theorem dX6_keepBack_86 : decode cX6_keepBack 86 = .ok (.putfield 57, 3) := by decide +kernel
theorem dX6_keepBack_89 : decode cX6_keepBack 89 = .ok (.aload_n 0, 1) := by decide +kernel
theorem dX6_keepBack_90 : decode cX6_keepBack 90 = .ok (.aload_n 1, 1) := by decide +kernel
theorem dX6_keepBack_91 : decode cX6_keepBack 91 = .ok (.bipush 83, 2) := by decide +kernel
theorem dX6_keepBack_93 : decode cX6_keepBack 93 = .ok (.iaload, 1) := by decide +kernel
theorem dX6_keepBack_94 : decode cX6_keepBack 94 = .ok (.putfield 119, 3) := by decide +kernel
theorem dX6_keepBack_97 : decode cX6_keepBack 97 = .ok (.aload_n 0, 1) := by decide +kernel
theorem dX6_keepBack_98 : decode cX6_keepBack 98 = .ok (.aload_n 1, 1) := by decide +kernel
theorem dX6_keepBack_99 : decode cX6_keepBack 99 = .ok (.bipush 84, 2) := by decide +kernel
theorem dX6_keepBack_101 : decode cX6_keepBack 101 = .ok (.iaload, 1) := by decide +kernel
theorem dX6_keepBack_102 : decode cX6_keepBack 102 = .ok (.putfield 61, 3) := by decide +kernel
theorem dX6_keepBack_105 : decode cX6_keepBack 105 = .ok (.aload_n 0, 1) := by decide +kernel
theorem dX6_keepBack_106 : decode cX6_keepBack 106 = .ok (.aload_n 1, 1) := by decide +kernel
theorem dX6_keepBack_107 : decode cX6_keepBack 107 = .ok (.bipush 85, 2) := by decide +kernel
theorem dX6_keepBack_109 : decode cX6_keepBack 109 = .ok (.iaload, 1) := by decide +kernel
theorem dX6_keepBack_110 : decode cX6_keepBack 110 = .ok (.putfield 235, 3) := by decide +kernel
theorem dX6_keepBack_113 : decode cX6_keepBack 113 = .ok (.aload_n 0, 1) := by decide +kernel
theorem dX6_keepBack_114 : decode cX6_keepBack 114 = .ok (.aload_n 1, 1) := by decide +kernel
theorem dX6_keepBack_115 : decode cX6_keepBack 115 = .ok (.bipush 86, 2) := by decide +kernel
theorem dX6_keepBack_117 : decode cX6_keepBack 117 = .ok (.iaload, 1) := by decide +kernel
theorem dX6_keepBack_118 : decode cX6_keepBack 118 = .ok (.putfield 72, 3) := by decide +kernel
theorem dX6_keepBack_121 : decode cX6_keepBack 121 = .ok (.aload_n 0, 1) := by decide +kernel
theorem dX6_keepBack_122 : decode cX6_keepBack 122 = .ok (.aload_n 1, 1) := by decide +kernel
theorem dX6_keepBack_123 : decode cX6_keepBack 123 = .ok (.bipush 87, 2) := by decide +kernel
theorem dX6_keepBack_125 : decode cX6_keepBack 125 = .ok (.iaload, 1) := by decide +kernel
theorem dX6_keepBack_126 : decode cX6_keepBack 126 = .ok (.putfield 64, 3) := by decide +kernel
theorem dX6_keepBack_129 : decode cX6_keepBack 129 = .ok (.aload_n 0, 1) := by decide +kernel
theorem dX6_keepBack_130 : decode cX6_keepBack 130 = .ok (.aload_n 1, 1) := by decide +kernel
theorem dX6_keepBack_131 : decode cX6_keepBack 131 = .ok (.bipush 88, 2) := by decide +kernel
theorem dX6_keepBack_133 : decode cX6_keepBack 133 = .ok (.iaload, 1) := by decide +kernel
theorem dX6_keepBack_134 : decode cX6_keepBack 134 = .ok (.putfield 299, 3) := by decide +kernel
theorem dX6_keepBack_137 : decode cX6_keepBack 137 = .ok (.aload_n 0, 1) := by decide +kernel
theorem dX6_keepBack_138 : decode cX6_keepBack 138 = .ok (.aload_n 1, 1) := by decide +kernel
theorem dX6_keepBack_139 : decode cX6_keepBack 139 = .ok (.bipush 89, 2) := by decide +kernel
theorem dX6_keepBack_141 : decode cX6_keepBack 141 = .ok (.iaload, 1) := by decide +kernel
theorem dX6_keepBack_142 : decode cX6_keepBack 142 = .ok (.putfield 67, 3) := by decide +kernel
theorem dX6_keepBack_145 : decode cX6_keepBack 145 = .ok (.return_, 1) := by decide +kernel
theorem dX6_image_0 : decode cX6_image 0 = .ok (.aload_n 0, 1) := by decide +kernel
theorem dX6_image_1 : decode cX6_image 1 = .ok (.iconst 1, 1) := by decide +kernel
theorem dX6_image_2 : decode cX6_image 2 = .ok (.putfield 306, 3) := by decide +kernel
theorem dX6_image_5 : decode cX6_image 5 = .ok (.aload_n 0, 1) := by decide +kernel
theorem dX6_image_6 : decode cX6_image 6 = .ok (.aload_n 0, 1) := by decide +kernel
theorem dX6_image_7 : decode cX6_image 7 = .ok (.getfield 39, 3) := by decide +kernel
theorem dX6_image_10 : decode cX6_image 10 = .ok (.invokevirtual 204, 3) := by decide +kernel
theorem dX6_image_13 : decode cX6_image 13 = .ok (.iconst 1, 1) := by decide +kernel
theorem dX6_image_14 : decode cX6_image 14 = .ok (.ireturn, 1) := by decide +kernel
theorem dX6_back_0 : decode cX6_back 0 = .ok (.aload_n 0, 1) := by decide +kernel
theorem dX6_back_1 : decode cX6_back 1 = .ok (.getfield 306, 3) := by decide +kernel
theorem dX6_back_4 : decode cX6_back 4 = .ok (.ifCond .ne 10, 3) := by decide +kernel
theorem dX6_back_7 : decode cX6_back 7 = .ok (.aload_n 0, 1) := by decide +kernel
theorem dX6_back_8 : decode cX6_back 8 = .ok (.bipush (-5), 2) := by decide +kernel
theorem dX6_back_10 : decode cX6_back 10 = .ok (.invokevirtual 83, 3) := by decide +kernel
theorem dX6_back_13 : decode cX6_back 13 = .ok (.ireturn, 1) := by decide +kernel
theorem dX6_back_14 : decode cX6_back 14 = .ok (.aload_n 0, 1) := by decide +kernel
theorem dX6_back_15 : decode cX6_back 15 = .ok (.aload_n 0, 1) := by decide +kernel
theorem dX6_back_16 : decode cX6_back 16 = .ok (.getfield 39, 3) := by decide +kernel
theorem dX6_back_19 : decode cX6_back 19 = .ok (.invokevirtual 212, 3) := by decide +kernel
theorem dX6_back_22 : decode cX6_back 22 = .ok (.iconst 0, 1) := by decide +kernel
theorem dX6_back_23 : decode cX6_back 23 = .ok (.istore_n 1, 1) := by decide +kernel
theorem dX6_back_24 : decode cX6_back 24 = .ok (.iload_n 1, 1) := by decide +kernel
theorem dX6_back_25 : decode cX6_back 25 = .ok (.bipush 8, 2) := by decide +kernel
theorem dX6_back_27 : decode cX6_back 27 = .ok (.if_icmp .ge 32, 3) := by decide +kernel
theorem dX6_back_30 : decode cX6_back 30 = .ok (.aload_n 0, 1) := by decide +kernel
theorem dX6_back_31 : decode cX6_back 31 = .ok (.getfield 26, 3) := by decide +kernel
theorem dX6_back_34 : decode cX6_back 34 = .ok (.iload_n 1, 1) := by decide +kernel
theorem dX6_back_35 : decode cX6_back 35 = .ok (.iaload, 1) := by decide +kernel
theorem dX6_back_36 : decode cX6_back 36 = .ok (.bipush 10, 2) := by decide +kernel
theorem dX6_back_38 : decode cX6_back 38 = .ok (.aload_n 0, 1) := by decide +kernel
theorem dX6_back_39 : decode cX6_back 39 = .ok (.getfield 72, 3) := by decide +kernel
theorem dX6_back_42 : decode cX6_back 42 = .ok (.iadd, 1) := by decide +kernel
theorem dX6_back_43 : decode cX6_back 43 = .ok (.if_icmp .lt 10, 3) := by decide +kernel
theorem dX6_back_46 : decode cX6_back 46 = .ok (.aload_n 0, 1) := by decide +kernel
theorem dX6_back_47 : decode cX6_back 47 = .ok (.getfield 26, 3) := by decide +kernel
theorem dX6_back_50 : decode cX6_back 50 = .ok (.iload_n 1, 1) := by decide +kernel
theorem dX6_back_51 : decode cX6_back 51 = .ok (.iconst (-1), 1) := by decide +kernel
theorem dX6_back_52 : decode cX6_back 52 = .ok (.iastore, 1) := by decide +kernel
theorem dX6_back_53 : decode cX6_back 53 = .ok (.iinc 1 1, 3) := by decide +kernel
theorem dX6_back_56 : decode cX6_back 56 = .ok (.goto (-32), 3) := by decide +kernel
theorem dX6_back_59 : decode cX6_back 59 = .ok (.iconst 1, 1) := by decide +kernel
theorem dX6_back_60 : decode cX6_back 60 = .ok (.ireturn, 1) := by decide +kernel
theorem dX6_allWalls_0 : decode cX6_allWalls 0 = .ok (.iconst 0, 1) := by decide +kernel
theorem dX6_allWalls_1 : decode cX6_allWalls 1 = .ok (.istore_n 1, 1) := by decide +kernel
theorem dX6_allWalls_2 : decode cX6_allWalls 2 = .ok (.iconst 0, 1) := by decide +kernel
theorem dX6_allWalls_3 : decode cX6_allWalls 3 = .ok (.istore_n 2, 1) := by decide +kernel
theorem dX6_allWalls_4 : decode cX6_allWalls 4 = .ok (.iload_n 2, 1) := by decide +kernel
theorem dX6_allWalls_5 : decode cX6_allWalls 5 = .ok (.bipush 67, 2) := by decide +kernel
theorem dX6_allWalls_7 : decode cX6_allWalls 7 = .ok (.if_icmp .ge 21, 3) := by decide +kernel
theorem dX6_allWalls_10 : decode cX6_allWalls 10 = .ok (.aload_n 0, 1) := by decide +kernel
theorem dX6_allWalls_11 : decode cX6_allWalls 11 = .ok (.getfield 7, 3) := by decide +kernel
theorem dX6_allWalls_14 : decode cX6_allWalls 14 = .ok (.iload_n 2, 1) := by decide +kernel
theorem dX6_allWalls_15 : decode cX6_allWalls 15 = .ok (.baload, 1) := by decide +kernel
theorem dX6_allWalls_16 : decode cX6_allWalls 16 = .ok (.ifCond .eq 6, 3) := by decide +kernel
theorem dX6_allWalls_19 : decode cX6_allWalls 19 = .ok (.iinc 1 1, 3) := by decide +kernel
theorem dX6_allWalls_22 : decode cX6_allWalls 22 = .ok (.iinc 2 1, 3) := by decide +kernel
theorem dX6_allWalls_25 : decode cX6_allWalls 25 = .ok (.goto (-21), 3) := by decide +kernel
theorem dX6_allWalls_28 : decode cX6_allWalls 28 = .ok (.iload_n 1, 1) := by decide +kernel
theorem dX6_allWalls_29 : decode cX6_allWalls 29 = .ok (.ireturn, 1) := by decide +kernel
theorem dX6_status_0 : decode cX6_status 0 = .ok (.iconst 0, 1) := by decide +kernel
theorem dX6_status_1 : decode cX6_status 1 = .ok (.istore_n 2, 1) := by decide +kernel
theorem dX6_status_2 : decode cX6_status 2 = .ok (.iload_n 1, 1) := by decide +kernel
theorem dX6_status_3 : decode cX6_status 3 = .ok (.tableswitch 145 0 11 #[61, 66, 71, 76, 81, 86, 91, 96, 101, 106, 111, 116], 61) := by decide +kernel
theorem dX6_status_64 : decode cX6_status 64 = .ok (.aload_n 0, 1) := by decide +kernel
theorem dX6_status_65 : decode cX6_status 65 = .ok (.getfield 72, 3) := by decide +kernel
theorem dX6_status_68 : decode cX6_status 68 = .ok (.ireturn, 1) := by decide +kernel
theorem dX6_status_69 : decode cX6_status 69 = .ok (.aload_n 0, 1) := by decide +kernel
theorem dX6_status_70 : decode cX6_status 70 = .ok (.getfield 57, 3) := by decide +kernel
theorem dX6_status_73 : decode cX6_status 73 = .ok (.ireturn, 1) := by decide +kernel
theorem dX6_status_74 : decode cX6_status 74 = .ok (.aload_n 0, 1) := by decide +kernel
theorem dX6_status_75 : decode cX6_status 75 = .ok (.getfield 119, 3) := by decide +kernel
theorem dX6_status_78 : decode cX6_status 78 = .ok (.ireturn, 1) := by decide +kernel
theorem dX6_status_79 : decode cX6_status 79 = .ok (.aload_n 0, 1) := by decide +kernel
theorem dX6_status_80 : decode cX6_status 80 = .ok (.getfield 61, 3) := by decide +kernel
theorem dX6_status_83 : decode cX6_status 83 = .ok (.ireturn, 1) := by decide +kernel
theorem dX6_status_84 : decode cX6_status 84 = .ok (.aload_n 0, 1) := by decide +kernel
theorem dX6_status_85 : decode cX6_status 85 = .ok (.getfield 64, 3) := by decide +kernel
theorem dX6_status_88 : decode cX6_status 88 = .ok (.ireturn, 1) := by decide +kernel
theorem dX6_status_89 : decode cX6_status 89 = .ok (.aload_n 0, 1) := by decide +kernel
theorem dX6_status_90 : decode cX6_status 90 = .ok (.getfield 299, 3) := by decide +kernel
theorem dX6_status_93 : decode cX6_status 93 = .ok (.ireturn, 1) := by decide +kernel
theorem dX6_status_94 : decode cX6_status 94 = .ok (.aload_n 0, 1) := by decide +kernel
theorem dX6_status_95 : decode cX6_status 95 = .ok (.invokevirtual 135, 3) := by decide +kernel
theorem dX6_status_98 : decode cX6_status 98 = .ok (.ireturn, 1) := by decide +kernel
theorem dX6_status_99 : decode cX6_status 99 = .ok (.aload_n 0, 1) := by decide +kernel
theorem dX6_status_100 : decode cX6_status 100 = .ok (.invokevirtual 310, 3) := by decide +kernel
theorem dX6_status_103 : decode cX6_status 103 = .ok (.ireturn, 1) := by decide +kernel
theorem dX6_status_104 : decode cX6_status 104 = .ok (.aload_n 0, 1) := by decide +kernel
theorem dX6_status_105 : decode cX6_status 105 = .ok (.getfield 235, 3) := by decide +kernel
theorem dX6_status_108 : decode cX6_status 108 = .ok (.ireturn, 1) := by decide +kernel
theorem dX6_status_109 : decode cX6_status 109 = .ok (.aload_n 0, 1) := by decide +kernel
theorem dX6_status_110 : decode cX6_status 110 = .ok (.getfield 149, 3) := by decide +kernel
theorem dX6_status_113 : decode cX6_status 113 = .ok (.ireturn, 1) := by decide +kernel
theorem dX6_status_114 : decode cX6_status 114 = .ok (.aload_n 0, 1) := by decide +kernel
theorem dX6_status_115 : decode cX6_status 115 = .ok (.getfield 67, 3) := by decide +kernel
theorem dX6_status_118 : decode cX6_status 118 = .ok (.ireturn, 1) := by decide +kernel
theorem dX6_status_119 : decode cX6_status 119 = .ok (.iconst 0, 1) := by decide +kernel
theorem dX6_status_120 : decode cX6_status 120 = .ok (.istore_n 3, 1) := by decide +kernel
theorem dX6_status_121 : decode cX6_status 121 = .ok (.iload_n 3, 1) := by decide +kernel
theorem dX6_status_122 : decode cX6_status 122 = .ok (.bipush 8, 2) := by decide +kernel
theorem dX6_status_124 : decode cX6_status 124 = .ok (.if_icmp .ge 22, 3) := by decide +kernel
theorem dX6_status_127 : decode cX6_status 127 = .ok (.aload_n 0, 1) := by decide +kernel
theorem dX6_status_128 : decode cX6_status 128 = .ok (.getfield 26, 3) := by decide +kernel
theorem dX6_status_131 : decode cX6_status 131 = .ok (.iload_n 3, 1) := by decide +kernel
theorem dX6_status_132 : decode cX6_status 132 = .ok (.iaload, 1) := by decide +kernel
theorem dX6_status_133 : decode cX6_status 133 = .ok (.iconst (-1), 1) := by decide +kernel
theorem dX6_status_134 : decode cX6_status 134 = .ok (.if_icmp .eq 6, 3) := by decide +kernel
theorem dX6_status_137 : decode cX6_status 137 = .ok (.iinc 2 1, 3) := by decide +kernel
theorem dX6_status_140 : decode cX6_status 140 = .ok (.iinc 3 1, 3) := by decide +kernel
theorem dX6_status_143 : decode cX6_status 143 = .ok (.goto (-22), 3) := by decide +kernel
theorem dX6_status_146 : decode cX6_status 146 = .ok (.iload_n 2, 1) := by decide +kernel
theorem dX6_status_147 : decode cX6_status 147 = .ok (.ireturn, 1) := by decide +kernel
theorem dX6_status_148 : decode cX6_status 148 = .ok (.iload_n 1, 1) := by decide +kernel
theorem dX6_status_149 : decode cX6_status 149 = .ok (.bipush 12, 2) := by decide +kernel
theorem dX6_status_151 : decode cX6_status 151 = .ok (.bipush 16, 2) := by decide +kernel
theorem dX6_status_153 : decode cX6_status 153 = .ok (.invokestatic 75, 3) := by decide +kernel
theorem dX6_status_156 : decode cX6_status 156 = .ok (.ifCond .eq 15, 3) := by decide +kernel
theorem dX6_status_159 : decode cX6_status 159 = .ok (.aload_n 0, 1) := by decide +kernel
theorem dX6_status_160 : decode cX6_status 160 = .ok (.getfield 36, 3) := by decide +kernel
theorem dX6_status_163 : decode cX6_status 163 = .ok (.iload_n 1, 1) := by decide +kernel
theorem dX6_status_164 : decode cX6_status 164 = .ok (.bipush 10, 2) := by decide +kernel
theorem dX6_status_166 : decode cX6_status 166 = .ok (.isub, 1) := by decide +kernel
theorem dX6_status_167 : decode cX6_status 167 = .ok (.iaload, 1) := by decide +kernel
theorem dX6_status_168 : decode cX6_status 168 = .ok (.goto 4, 3) := by decide +kernel
theorem dX6_status_171 : decode cX6_status 171 = .ok (.iconst (-1), 1) := by decide +kernel
theorem dX6_status_172 : decode cX6_status 172 = .ok (.ireturn, 1) := by decide +kernel
