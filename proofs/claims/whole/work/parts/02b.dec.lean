theorem dX5_init_0 : decode cX5_init 0 = .ok (.aload_n 0, 1) := by decide +kernel
theorem dX5_init_1 : decode cX5_init 1 = .ok (.invokespecial 1, 3) := by decide +kernel
theorem dX5_init_4 : decode cX5_init 4 = .ok (.aload_n 0, 1) := by decide +kernel
theorem dX5_init_5 : decode cX5_init 5 = .ok (.new 7, 3) := by decide +kernel
theorem dX5_init_8 : decode cX5_init 8 = .ok (.dup, 1) := by decide +kernel
theorem dX5_init_9 : decode cX5_init 9 = .ok (.invokespecial 9, 3) := by decide +kernel
theorem dX5_init_12 : decode cX5_init 12 = .ok (.putfield 10, 3) := by decide +kernel
theorem dX5_init_15 : decode cX5_init 15 = .ok (.aload_n 0, 1) := by decide +kernel
theorem dX5_init_16 : decode cX5_init 16 = .ok (.new 7, 3) := by decide +kernel
theorem dX5_init_19 : decode cX5_init 19 = .ok (.dup, 1) := by decide +kernel
theorem dX5_init_20 : decode cX5_init 20 = .ok (.invokespecial 9, 3) := by decide +kernel
theorem dX5_init_23 : decode cX5_init 23 = .ok (.putfield 16, 3) := by decide +kernel
theorem dX5_init_26 : decode cX5_init 26 = .ok (.aload_n 0, 1) := by decide +kernel
theorem dX5_init_27 : decode cX5_init 27 = .ok (.iconst 0, 1) := by decide +kernel
theorem dX5_init_28 : decode cX5_init 28 = .ok (.putfield 19, 3) := by decide +kernel
theorem dX5_init_31 : decode cX5_init 31 = .ok (.aload_n 0, 1) := by decide +kernel
theorem dX5_init_32 : decode cX5_init 32 = .ok (.new 23, 3) := by decide +kernel
theorem dX5_init_35 : decode cX5_init 35 = .ok (.dup, 1) := by decide +kernel
theorem dX5_init_36 : decode cX5_init 36 = .ok (.invokespecial 25, 3) := by decide +kernel
theorem dX5_init_39 : decode cX5_init 39 = .ok (.putfield 26, 3) := by decide +kernel
theorem dX5_init_42 : decode cX5_init 42 = .ok (.aload_n 0, 1) := by decide +kernel
theorem dX5_init_43 : decode cX5_init 43 = .ok (.bipush 8, 2) := by decide +kernel
theorem dX5_init_45 : decode cX5_init 45 = .ok (.anewarray 30, 3) := by decide +kernel
theorem dX5_init_48 : decode cX5_init 48 = .ok (.putfield 32, 3) := by decide +kernel
theorem dX5_init_51 : decode cX5_init 51 = .ok (.iconst 0, 1) := by decide +kernel
theorem dX5_init_52 : decode cX5_init 52 = .ok (.istore_n 1, 1) := by decide +kernel
theorem dX5_init_53 : decode cX5_init 53 = .ok (.iload_n 1, 1) := by decide +kernel
theorem dX5_init_54 : decode cX5_init 54 = .ok (.bipush 8, 2) := by decide +kernel
theorem dX5_init_56 : decode cX5_init 56 = .ok (.if_icmp .ge 22, 3) := by decide +kernel
theorem dX5_init_59 : decode cX5_init 59 = .ok (.aload_n 0, 1) := by decide +kernel
theorem dX5_init_60 : decode cX5_init 60 = .ok (.getfield 32, 3) := by decide +kernel
theorem dX5_init_63 : decode cX5_init 63 = .ok (.iload_n 1, 1) := by decide +kernel
theorem dX5_init_64 : decode cX5_init 64 = .ok (.new 30, 3) := by decide +kernel
theorem dX5_init_67 : decode cX5_init 67 = .ok (.dup, 1) := by decide +kernel
theorem dX5_init_68 : decode cX5_init 68 = .ok (.invokespecial 36, 3) := by decide +kernel
theorem dX5_init_71 : decode cX5_init 71 = .ok (.aastore, 1) := by decide +kernel
theorem dX5_init_72 : decode cX5_init 72 = .ok (.iinc 1 1, 3) := by decide +kernel
theorem dX5_init_75 : decode cX5_init 75 = .ok (.goto (-22), 3) := by decide +kernel
theorem dX5_init_78 : decode cX5_init 78 = .ok (.aload_n 0, 1) := by decide +kernel
theorem dX5_init_79 : decode cX5_init 79 = .ok (.iconst 5, 1) := by decide +kernel
theorem dX5_init_80 : decode cX5_init 80 = .ok (.newarray .int, 2) := by decide +kernel
theorem dX5_init_82 : decode cX5_init 82 = .ok (.putfield 37, 3) := by decide +kernel
theorem dX5_init_85 : decode cX5_init 85 = .ok (.aload_n 0, 1) := by decide +kernel
theorem dX5_init_86 : decode cX5_init 86 = .ok (.new 41, 3) := by decide +kernel
theorem dX5_init_89 : decode cX5_init 89 = .ok (.dup, 1) := by decide +kernel
theorem dX5_init_90 : decode cX5_init 90 = .ok (.invokespecial 43, 3) := by decide +kernel
theorem dX5_init_93 : decode cX5_init 93 = .ok (.putfield 44, 3) := by decide +kernel
theorem dX5_init_96 : decode cX5_init 96 = .ok (.aload_n 0, 1) := by decide +kernel
theorem dX5_init_97 : decode cX5_init 97 = .ok (.new 48, 3) := by decide +kernel
theorem dX5_init_100 : decode cX5_init 100 = .ok (.dup, 1) := by decide +kernel
theorem dX5_init_101 : decode cX5_init 101 = .ok (.invokespecial 50, 3) := by decide +kernel
theorem dX5_init_104 : decode cX5_init 104 = .ok (.putfield 51, 3) := by decide +kernel
theorem dX5_init_107 : decode cX5_init 107 = .ok (.return_, 1) := by decide +kernel
theorem dX5_row_0 : decode cX5_row 0 = .ok (.iload_n 1, 1) := by decide +kernel
theorem dX5_row_1 : decode cX5_row 1 = .ok (.invokestatic 55, 3) := by decide +kernel
theorem dX5_row_4 : decode cX5_row 4 = .ok (.ifCond .eq 22, 3) := by decide +kernel
theorem dX5_row_7 : decode cX5_row 7 = .ok (.iload_n 2, 1) := by decide +kernel
theorem dX5_row_8 : decode cX5_row 8 = .ok (.ifCond .lt 18, 3) := by decide +kernel
theorem dX5_row_11 : decode cX5_row 11 = .ok (.iload_n 2, 1) := by decide +kernel
theorem dX5_row_12 : decode cX5_row 12 = .ok (.iconst 5, 1) := by decide +kernel
theorem dX5_row_13 : decode cX5_row 13 = .ok (.if_icmp .ge 13, 3) := by decide +kernel
theorem dX5_row_16 : decode cX5_row 16 = .ok (.iload_n 3, 1) := by decide +kernel
theorem dX5_row_17 : decode cX5_row 17 = .ok (.ifCond .lt 9, 3) := by decide +kernel
theorem dX5_row_20 : decode cX5_row 20 = .ok (.iload_n 3, 1) := by decide +kernel
theorem dX5_row_21 : decode cX5_row 21 = .ok (.bipush 40, 2) := by decide +kernel
theorem dX5_row_23 : decode cX5_row 23 = .ok (.if_icmp .le 10, 3) := by decide +kernel
theorem dX5_row_26 : decode cX5_row 26 = .ok (.aload_n 0, 1) := by decide +kernel
theorem dX5_row_27 : decode cX5_row 27 = .ok (.bipush (-2), 2) := by decide +kernel
theorem dX5_row_29 : decode cX5_row 29 = .ok (.invokevirtual 59, 3) := by decide +kernel
theorem dX5_row_32 : decode cX5_row 32 = .ok (.ireturn, 1) := by decide +kernel
theorem dX5_row_33 : decode cX5_row 33 = .ok (.aload_n 0, 1) := by decide +kernel
theorem dX5_row_34 : decode cX5_row 34 = .ok (.getfield 32, 3) := by decide +kernel
theorem dX5_row_37 : decode cX5_row 37 = .ok (.iload_n 1, 1) := by decide +kernel
theorem dX5_row_38 : decode cX5_row 38 = .ok (.aaload, 1) := by decide +kernel
theorem dX5_row_39 : decode cX5_row 39 = .ok (.iload_n 2, 1) := by decide +kernel
theorem dX5_row_40 : decode cX5_row 40 = .ok (.iload_n 3, 1) := by decide +kernel
theorem dX5_row_41 : decode cX5_row 41 = .ok (.invokevirtual 63, 3) := by decide +kernel
theorem dX5_row_44 : decode cX5_row 44 = .ok (.iconst 1, 1) := by decide +kernel
theorem dX5_row_45 : decode cX5_row 45 = .ok (.ireturn, 1) := by decide +kernel
theorem dX5_set_0 : decode cX5_set 0 = .ok (.aload_n 0, 1) := by decide +kernel
theorem dX5_set_1 : decode cX5_set 1 = .ok (.iload_n 1, 1) := by decide +kernel
theorem dX5_set_2 : decode cX5_set 2 = .ok (.iconst 0, 1) := by decide +kernel
theorem dX5_set_3 : decode cX5_set 3 = .ok (.bipush 40, 2) := by decide +kernel
theorem dX5_set_5 : decode cX5_set 5 = .ok (.invokevirtual 67, 3) := by decide +kernel
theorem dX5_set_8 : decode cX5_set 8 = .ok (.istore 5, 2) := by decide +kernel
theorem dX5_set_10 : decode cX5_set 10 = .ok (.iload 5, 2) := by decide +kernel
theorem dX5_set_12 : decode cX5_set 12 = .ok (.ifCond .eq 10, 3) := by decide +kernel
theorem dX5_set_15 : decode cX5_set 15 = .ok (.aload_n 0, 1) := by decide +kernel
theorem dX5_set_16 : decode cX5_set 16 = .ok (.iload 5, 2) := by decide +kernel
theorem dX5_set_18 : decode cX5_set 18 = .ok (.invokevirtual 59, 3) := by decide +kernel
theorem dX5_set_21 : decode cX5_set 21 = .ok (.ireturn, 1) := by decide +kernel
theorem dX5_set_22 : decode cX5_set 22 = .ok (.iload_n 2, 1) := by decide +kernel
theorem dX5_set_23 : decode cX5_set 23 = .ok (.ifCond .lt 16, 3) := by decide +kernel
theorem dX5_set_26 : decode cX5_set 26 = .ok (.iload_n 2, 1) := by decide +kernel
theorem dX5_set_27 : decode cX5_set 27 = .ok (.aload_n 0, 1) := by decide +kernel
theorem dX5_set_28 : decode cX5_set 28 = .ok (.getfield 32, 3) := by decide +kernel
theorem dX5_set_31 : decode cX5_set 31 = .ok (.iload_n 1, 1) := by decide +kernel
theorem dX5_set_32 : decode cX5_set 32 = .ok (.aaload, 1) := by decide +kernel
theorem dX5_set_33 : decode cX5_set 33 = .ok (.getfield 71, 3) := by decide +kernel
theorem dX5_set_36 : decode cX5_set 36 = .ok (.if_icmp .lt 10, 3) := by decide +kernel
theorem dX5_set_39 : decode cX5_set 39 = .ok (.aload_n 0, 1) := by decide +kernel
theorem dX5_set_40 : decode cX5_set 40 = .ok (.bipush (-2), 2) := by decide +kernel
theorem dX5_set_42 : decode cX5_set 42 = .ok (.invokevirtual 59, 3) := by decide +kernel
theorem dX5_set_45 : decode cX5_set 45 = .ok (.ireturn, 1) := by decide +kernel
theorem dX5_set_46 : decode cX5_set 46 = .ok (.aload_n 0, 1) := by decide +kernel
theorem dX5_set_47 : decode cX5_set 47 = .ok (.getfield 32, 3) := by decide +kernel
theorem dX5_set_50 : decode cX5_set 50 = .ok (.iload_n 1, 1) := by decide +kernel
theorem dX5_set_51 : decode cX5_set 51 = .ok (.aaload, 1) := by decide +kernel
theorem dX5_set_52 : decode cX5_set 52 = .ok (.getfield 75, 3) := by decide +kernel
theorem dX5_set_55 : decode cX5_set 55 = .ok (.iload_n 2, 1) := by decide +kernel
theorem dX5_set_56 : decode cX5_set 56 = .ok (.aload_n 0, 1) := by decide +kernel
theorem dX5_set_57 : decode cX5_set 57 = .ok (.getfield 32, 3) := by decide +kernel
theorem dX5_set_60 : decode cX5_set 60 = .ok (.iload_n 1, 1) := by decide +kernel
theorem dX5_set_61 : decode cX5_set 61 = .ok (.aaload, 1) := by decide +kernel
theorem dX5_set_62 : decode cX5_set 62 = .ok (.getfield 79, 3) := by decide +kernel
theorem dX5_set_65 : decode cX5_set 65 = .ok (.lload_n 3, 1) := by decide +kernel
theorem dX5_set_66 : decode cX5_set 66 = .ok (.invokestatic 82, 3) := by decide +kernel
theorem dX5_set_69 : decode cX5_set 69 = .ok (.lastore, 1) := by decide +kernel
theorem dX5_set_70 : decode cX5_set 70 = .ok (.iconst 1, 1) := by decide +kernel
theorem dX5_set_71 : decode cX5_set 71 = .ok (.ireturn, 1) := by decide +kernel
theorem dX5_copy_0 : decode cX5_copy 0 = .ok (.iload_n 1, 1) := by decide +kernel
theorem dX5_copy_1 : decode cX5_copy 1 = .ok (.invokestatic 55, 3) := by decide +kernel
theorem dX5_copy_4 : decode cX5_copy 4 = .ok (.ifCond .eq 10, 3) := by decide +kernel
theorem dX5_copy_7 : decode cX5_copy 7 = .ok (.iload_n 2, 1) := by decide +kernel
theorem dX5_copy_8 : decode cX5_copy 8 = .ok (.invokestatic 55, 3) := by decide +kernel
theorem dX5_copy_11 : decode cX5_copy 11 = .ok (.ifCond .ne 10, 3) := by decide +kernel
theorem dX5_copy_14 : decode cX5_copy 14 = .ok (.aload_n 0, 1) := by decide +kernel
theorem dX5_copy_15 : decode cX5_copy 15 = .ok (.bipush (-2), 2) := by decide +kernel
theorem dX5_copy_17 : decode cX5_copy 17 = .ok (.invokevirtual 59, 3) := by decide +kernel
theorem dX5_copy_20 : decode cX5_copy 20 = .ok (.ireturn, 1) := by decide +kernel
theorem dX5_copy_21 : decode cX5_copy 21 = .ok (.aload_n 0, 1) := by decide +kernel
theorem dX5_copy_22 : decode cX5_copy 22 = .ok (.getfield 32, 3) := by decide +kernel
theorem dX5_copy_25 : decode cX5_copy 25 = .ok (.iload_n 1, 1) := by decide +kernel
theorem dX5_copy_26 : decode cX5_copy 26 = .ok (.aaload, 1) := by decide +kernel
theorem dX5_copy_27 : decode cX5_copy 27 = .ok (.astore 6, 2) := by decide +kernel
theorem dX5_copy_29 : decode cX5_copy 29 = .ok (.aload_n 0, 1) := by decide +kernel
theorem dX5_copy_30 : decode cX5_copy 30 = .ok (.getfield 32, 3) := by decide +kernel
theorem dX5_copy_33 : decode cX5_copy 33 = .ok (.iload_n 2, 1) := by decide +kernel
theorem dX5_copy_34 : decode cX5_copy 34 = .ok (.aaload, 1) := by decide +kernel
theorem dX5_copy_35 : decode cX5_copy 35 = .ok (.astore 7, 2) := by decide +kernel
theorem dX5_copy_37 : decode cX5_copy 37 = .ok (.aload 6, 2) := by decide +kernel
theorem dX5_copy_39 : decode cX5_copy 39 = .ok (.invokevirtual 86, 3) := by decide +kernel
theorem dX5_copy_42 : decode cX5_copy 42 = .ok (.ifCond .eq 28, 3) := by decide +kernel
theorem dX5_copy_45 : decode cX5_copy 45 = .ok (.aload 7, 2) := by decide +kernel
theorem dX5_copy_47 : decode cX5_copy 47 = .ok (.invokevirtual 86, 3) := by decide +kernel
theorem dX5_copy_50 : decode cX5_copy 50 = .ok (.ifCond .eq 20, 3) := by decide +kernel
theorem dX5_copy_53 : decode cX5_copy 53 = .ok (.aload 6, 2) := by decide +kernel
theorem dX5_copy_55 : decode cX5_copy 55 = .ok (.getfield 79, 3) := by decide +kernel
theorem dX5_copy_58 : decode cX5_copy 58 = .ok (.aload 7, 2) := by decide +kernel
theorem dX5_copy_60 : decode cX5_copy 60 = .ok (.getfield 79, 3) := by decide +kernel
theorem dX5_copy_63 : decode cX5_copy 63 = .ok (.if_icmp .eq 7, 3) := by decide +kernel
theorem dX5_copy_66 : decode cX5_copy 66 = .ok (.iconst 1, 1) := by decide +kernel
theorem dX5_copy_67 : decode cX5_copy 67 = .ok (.goto 4, 3) := by decide +kernel
theorem dX5_copy_70 : decode cX5_copy 70 = .ok (.iconst 0, 1) := by decide +kernel
theorem dX5_copy_71 : decode cX5_copy 71 = .ok (.istore 8, 2) := by decide +kernel
theorem dX5_copy_73 : decode cX5_copy 73 = .ok (.aload 6, 2) := by decide +kernel
theorem dX5_copy_75 : decode cX5_copy 75 = .ok (.invokevirtual 90, 3) := by decide +kernel
theorem dX5_copy_78 : decode cX5_copy 78 = .ok (.ifCond .ne 16, 3) := by decide +kernel
theorem dX5_copy_81 : decode cX5_copy 81 = .ok (.aload 7, 2) := by decide +kernel
theorem dX5_copy_83 : decode cX5_copy 83 = .ok (.invokevirtual 90, 3) := by decide +kernel
theorem dX5_copy_86 : decode cX5_copy 86 = .ok (.ifCond .ne 8, 3) := by decide +kernel
theorem dX5_copy_89 : decode cX5_copy 89 = .ok (.iload 8, 2) := by decide +kernel
theorem dX5_copy_91 : decode cX5_copy 91 = .ok (.ifCond .eq 10, 3) := by decide +kernel
theorem dX5_copy_94 : decode cX5_copy 94 = .ok (.aload_n 0, 1) := by decide +kernel
theorem dX5_copy_95 : decode cX5_copy 95 = .ok (.bipush (-3), 2) := by decide +kernel
theorem dX5_copy_97 : decode cX5_copy 97 = .ok (.invokevirtual 59, 3) := by decide +kernel
theorem dX5_copy_100 : decode cX5_copy 100 = .ok (.ireturn, 1) := by decide +kernel
theorem dX5_copy_101 : decode cX5_copy 101 = .ok (.aload 6, 2) := by decide +kernel
theorem dX5_copy_103 : decode cX5_copy 103 = .ok (.invokevirtual 86, 3) := by decide +kernel
theorem dX5_copy_106 : decode cX5_copy 106 = .ok (.ifCond .eq 11, 3) := by decide +kernel
theorem dX5_copy_109 : decode cX5_copy 109 = .ok (.aload 7, 2) := by decide +kernel
theorem dX5_copy_111 : decode cX5_copy 111 = .ok (.invokevirtual 86, 3) := by decide +kernel
theorem dX5_copy_114 : decode cX5_copy 114 = .ok (.ifCond .ne 10, 3) := by decide +kernel
theorem dX5_copy_117 : decode cX5_copy 117 = .ok (.aload_n 0, 1) := by decide +kernel
theorem dX5_copy_118 : decode cX5_copy 118 = .ok (.bipush (-4), 2) := by decide +kernel
theorem dX5_copy_120 : decode cX5_copy 120 = .ok (.invokevirtual 59, 3) := by decide +kernel
theorem dX5_copy_123 : decode cX5_copy 123 = .ok (.ireturn, 1) := by decide +kernel
theorem dX5_copy_124 : decode cX5_copy 124 = .ok (.aload 6, 2) := by decide +kernel
theorem dX5_copy_126 : decode cX5_copy 126 = .ok (.iload_n 3, 1) := by decide +kernel
theorem dX5_copy_127 : decode cX5_copy 127 = .ok (.iload 5, 2) := by decide +kernel
theorem dX5_copy_129 : decode cX5_copy 129 = .ok (.invokevirtual 93, 3) := by decide +kernel
theorem dX5_copy_132 : decode cX5_copy 132 = .ok (.ifCond .eq 15, 3) := by decide +kernel
theorem dX5_copy_135 : decode cX5_copy 135 = .ok (.aload 7, 2) := by decide +kernel
theorem dX5_copy_137 : decode cX5_copy 137 = .ok (.iload 4, 2) := by decide +kernel
theorem dX5_copy_139 : decode cX5_copy 139 = .ok (.iload 5, 2) := by decide +kernel
theorem dX5_copy_141 : decode cX5_copy 141 = .ok (.invokevirtual 93, 3) := by decide +kernel
theorem dX5_copy_144 : decode cX5_copy 144 = .ok (.ifCond .ne 10, 3) := by decide +kernel
theorem dX5_copy_147 : decode cX5_copy 147 = .ok (.aload_n 0, 1) := by decide +kernel
theorem dX5_copy_148 : decode cX5_copy 148 = .ok (.bipush (-2), 2) := by decide +kernel
theorem dX5_copy_150 : decode cX5_copy 150 = .ok (.invokevirtual 59, 3) := by decide +kernel
theorem dX5_copy_153 : decode cX5_copy 153 = .ok (.ireturn, 1) := by decide +kernel
theorem dX5_copy_154 : decode cX5_copy 154 = .ok (.aload 6, 2) := by decide +kernel
theorem dX5_copy_156 : decode cX5_copy 156 = .ok (.getfield 75, 3) := by decide +kernel
theorem dX5_copy_159 : decode cX5_copy 159 = .ok (.iload_n 3, 1) := by decide +kernel
theorem dX5_copy_160 : decode cX5_copy 160 = .ok (.aload 7, 2) := by decide +kernel
theorem dX5_copy_162 : decode cX5_copy 162 = .ok (.getfield 75, 3) := by decide +kernel
theorem dX5_copy_165 : decode cX5_copy 165 = .ok (.iload 4, 2) := by decide +kernel
theorem dX5_copy_167 : decode cX5_copy 167 = .ok (.iload 5, 2) := by decide +kernel
theorem dX5_copy_169 : decode cX5_copy 169 = .ok (.invokestatic 97, 3) := by decide +kernel
theorem dX5_copy_172 : decode cX5_copy 172 = .ok (.iload 5, 2) := by decide +kernel
theorem dX5_copy_174 : decode cX5_copy 174 = .ok (.ireturn, 1) := by decide +kernel
theorem dX5_element_0 : decode cX5_element 0 = .ok (.iload_n 1, 1) := by decide +kernel
theorem dX5_element_1 : decode cX5_element 1 = .ok (.invokestatic 55, 3) := by decide +kernel
theorem dX5_element_4 : decode cX5_element 4 = .ok (.ifCond .eq 32, 3) := by decide +kernel
theorem dX5_element_7 : decode cX5_element 7 = .ok (.aload_n 0, 1) := by decide +kernel
theorem dX5_element_8 : decode cX5_element 8 = .ok (.getfield 32, 3) := by decide +kernel
theorem dX5_element_11 : decode cX5_element 11 = .ok (.iload_n 1, 1) := by decide +kernel
theorem dX5_element_12 : decode cX5_element 12 = .ok (.aaload, 1) := by decide +kernel
theorem dX5_element_13 : decode cX5_element 13 = .ok (.invokevirtual 86, 3) := by decide +kernel
theorem dX5_element_16 : decode cX5_element 16 = .ok (.ifCond .eq 20, 3) := by decide +kernel
theorem dX5_element_19 : decode cX5_element 19 = .ok (.iload_n 2, 1) := by decide +kernel
theorem dX5_element_20 : decode cX5_element 20 = .ok (.ifCond .lt 16, 3) := by decide +kernel
theorem dX5_element_23 : decode cX5_element 23 = .ok (.iload_n 2, 1) := by decide +kernel
theorem dX5_element_24 : decode cX5_element 24 = .ok (.aload_n 0, 1) := by decide +kernel
theorem dX5_element_25 : decode cX5_element 25 = .ok (.getfield 32, 3) := by decide +kernel
theorem dX5_element_28 : decode cX5_element 28 = .ok (.iload_n 1, 1) := by decide +kernel
theorem dX5_element_29 : decode cX5_element 29 = .ok (.aaload, 1) := by decide +kernel
theorem dX5_element_30 : decode cX5_element 30 = .ok (.getfield 71, 3) := by decide +kernel
theorem dX5_element_33 : decode cX5_element 33 = .ok (.if_icmp .lt 5, 3) := by decide +kernel
theorem dX5_element_36 : decode cX5_element 36 = .ok (.lconst 0, 1) := by decide +kernel
theorem dX5_element_37 : decode cX5_element 37 = .ok (.lreturn, 1) := by decide +kernel
theorem dX5_element_38 : decode cX5_element 38 = .ok (.aload_n 0, 1) := by decide +kernel
theorem dX5_element_39 : decode cX5_element 39 = .ok (.getfield 32, 3) := by decide +kernel
theorem dX5_element_42 : decode cX5_element 42 = .ok (.iload_n 1, 1) := by decide +kernel
theorem dX5_element_43 : decode cX5_element 43 = .ok (.aaload, 1) := by decide +kernel
theorem dX5_element_44 : decode cX5_element 44 = .ok (.getfield 75, 3) := by decide +kernel
theorem dX5_element_47 : decode cX5_element 47 = .ok (.iload_n 2, 1) := by decide +kernel
theorem dX5_element_48 : decode cX5_element 48 = .ok (.laload, 1) := by decide +kernel
theorem dX5_element_49 : decode cX5_element 49 = .ok (.lreturn, 1) := by decide +kernel
theorem dX5_holds_0 : decode cX5_holds 0 = .ok (.iload_n 1, 1) := by decide +kernel
theorem dX5_holds_1 : decode cX5_holds 1 = .ok (.invokestatic 55, 3) := by decide +kernel
theorem dX5_holds_4 : decode cX5_holds 4 = .ok (.ifCond .eq 15, 3) := by decide +kernel
theorem dX5_holds_7 : decode cX5_holds 7 = .ok (.aload_n 0, 1) := by decide +kernel
theorem dX5_holds_8 : decode cX5_holds 8 = .ok (.getfield 32, 3) := by decide +kernel
theorem dX5_holds_11 : decode cX5_holds 11 = .ok (.iload_n 1, 1) := by decide +kernel
theorem dX5_holds_12 : decode cX5_holds 12 = .ok (.aaload, 1) := by decide +kernel
theorem dX5_holds_13 : decode cX5_holds 13 = .ok (.getfield 79, 3) := by decide +kernel
theorem dX5_holds_16 : decode cX5_holds 16 = .ok (.goto 4, 3) := by decide +kernel
theorem dX5_holds_19 : decode cX5_holds 19 = .ok (.iconst (-1), 1) := by decide +kernel
theorem dX5_holds_20 : decode cX5_holds 20 = .ok (.ireturn, 1) := by decide +kernel
theorem dX5_show_0 : decode cX5_show 0 = .ok (.iload_n 1, 1) := by decide +kernel
theorem dX5_show_1 : decode cX5_show 1 = .ok (.invokestatic 55, 3) := by decide +kernel
theorem dX5_show_4 : decode cX5_show 4 = .ok (.ifCond .eq 19, 3) := by decide +kernel
theorem dX5_show_7 : decode cX5_show 7 = .ok (.iload_n 2, 1) := by decide +kernel
theorem dX5_show_8 : decode cX5_show 8 = .ok (.iconst (-1), 1) := by decide +kernel
theorem dX5_show_9 : decode cX5_show 9 = .ok (.if_icmp .eq 21, 3) := by decide +kernel
theorem dX5_show_12 : decode cX5_show 12 = .ok (.aload_n 0, 1) := by decide +kernel
theorem dX5_show_13 : decode cX5_show 13 = .ok (.getfield 10, 3) := by decide +kernel
theorem dX5_show_16 : decode cX5_show 16 = .ok (.iload_n 2, 1) := by decide +kernel
theorem dX5_show_17 : decode cX5_show 17 = .ok (.invokevirtual 103, 3) := by decide +kernel
theorem dX5_show_20 : decode cX5_show 20 = .ok (.ifCond .ne 10, 3) := by decide +kernel
theorem dX5_show_23 : decode cX5_show 23 = .ok (.aload_n 0, 1) := by decide +kernel
theorem dX5_show_24 : decode cX5_show 24 = .ok (.bipush (-2), 2) := by decide +kernel
theorem dX5_show_26 : decode cX5_show 26 = .ok (.invokevirtual 59, 3) := by decide +kernel
theorem dX5_show_29 : decode cX5_show 29 = .ok (.ireturn, 1) := by decide +kernel
theorem dX5_show_30 : decode cX5_show 30 = .ok (.aload_n 0, 1) := by decide +kernel
theorem dX5_show_31 : decode cX5_show 31 = .ok (.getfield 32, 3) := by decide +kernel
theorem dX5_show_34 : decode cX5_show 34 = .ok (.iload_n 1, 1) := by decide +kernel
theorem dX5_show_35 : decode cX5_show 35 = .ok (.aaload, 1) := by decide +kernel
theorem dX5_show_36 : decode cX5_show 36 = .ok (.iload_n 2, 1) := by decide +kernel
theorem dX5_show_37 : decode cX5_show 37 = .ok (.iconst (-1), 1) := by decide +kernel
theorem dX5_show_38 : decode cX5_show 38 = .ok (.if_icmp .ne 7, 3) := by decide +kernel
theorem dX5_show_41 : decode cX5_show 41 = .ok (.iconst (-1), 1) := by decide +kernel
theorem dX5_show_42 : decode cX5_show 42 = .ok (.goto 7, 3) := by decide +kernel
theorem dX5_show_45 : decode cX5_show 45 = .ok (.bipush 10, 2) := by decide +kernel
theorem dX5_show_47 : decode cX5_show 47 = .ok (.iload_n 2, 1) := by decide +kernel
theorem dX5_show_48 : decode cX5_show 48 = .ok (.iadd, 1) := by decide +kernel
theorem dX5_show_49 : decode cX5_show 49 = .ok (.putfield 79, 3) := by decide +kernel
theorem dX5_show_52 : decode cX5_show 52 = .ok (.iconst 1, 1) := by decide +kernel
theorem dX5_show_53 : decode cX5_show 53 = .ok (.ireturn, 1) := by decide +kernel
theorem dX5_says_0 : decode cX5_says 0 = .ok (.iload_n 1, 1) := by decide +kernel
theorem dX5_says_1 : decode cX5_says 1 = .ok (.invokestatic 55, 3) := by decide +kernel
theorem dX5_says_4 : decode cX5_says 4 = .ok (.ifCond .eq 10, 3) := by decide +kernel
theorem dX5_says_7 : decode cX5_says 7 = .ok (.iload_n 2, 1) := by decide +kernel
theorem dX5_says_8 : decode cX5_says 8 = .ok (.invokestatic 106, 3) := by decide +kernel
theorem dX5_says_11 : decode cX5_says 11 = .ok (.ifCond .ne 10, 3) := by decide +kernel
theorem dX5_says_14 : decode cX5_says 14 = .ok (.aload_n 0, 1) := by decide +kernel
theorem dX5_says_15 : decode cX5_says 15 = .ok (.bipush (-2), 2) := by decide +kernel
theorem dX5_says_17 : decode cX5_says 17 = .ok (.invokevirtual 59, 3) := by decide +kernel
theorem dX5_says_20 : decode cX5_says 20 = .ok (.ireturn, 1) := by decide +kernel
theorem dX5_says_21 : decode cX5_says 21 = .ok (.aload_n 0, 1) := by decide +kernel
theorem dX5_says_22 : decode cX5_says 22 = .ok (.getfield 32, 3) := by decide +kernel
theorem dX5_says_25 : decode cX5_says 25 = .ok (.iload_n 1, 1) := by decide +kernel
theorem dX5_says_26 : decode cX5_says 26 = .ok (.aaload, 1) := by decide +kernel
theorem dX5_says_27 : decode cX5_says 27 = .ok (.astore_n 3, 1) := by decide +kernel
theorem dX5_says_28 : decode cX5_says 28 = .ok (.aload_n 3, 1) := by decide +kernel
theorem dX5_says_29 : decode cX5_says 29 = .ok (.invokevirtual 86, 3) := by decide +kernel
theorem dX5_says_32 : decode cX5_says 32 = .ok (.ifCond .eq 10, 3) := by decide +kernel
theorem dX5_says_35 : decode cX5_says 35 = .ok (.aload_n 0, 1) := by decide +kernel
theorem dX5_says_36 : decode cX5_says 36 = .ok (.bipush (-3), 2) := by decide +kernel
theorem dX5_says_38 : decode cX5_says 38 = .ok (.invokevirtual 59, 3) := by decide +kernel
theorem dX5_says_41 : decode cX5_says 41 = .ok (.ireturn, 1) := by decide +kernel
theorem dX5_says_42 : decode cX5_says 42 = .ok (.aload_n 3, 1) := by decide +kernel
theorem dX5_says_43 : decode cX5_says 43 = .ok (.invokevirtual 90, 3) := by decide +kernel
theorem dX5_says_46 : decode cX5_says 46 = .ok (.ifCond .ne 10, 3) := by decide +kernel
theorem dX5_says_49 : decode cX5_says 49 = .ok (.aload_n 0, 1) := by decide +kernel
theorem dX5_says_50 : decode cX5_says 50 = .ok (.bipush (-4), 2) := by decide +kernel
theorem dX5_says_52 : decode cX5_says 52 = .ok (.invokevirtual 59, 3) := by decide +kernel
theorem dX5_says_55 : decode cX5_says 55 = .ok (.ireturn, 1) := by decide +kernel
theorem dX5_says_56 : decode cX5_says 56 = .ok (.aload_n 3, 1) := by decide +kernel
theorem dX5_says_57 : decode cX5_says 57 = .ok (.getfield 79, 3) := by decide +kernel
theorem dX5_says_60 : decode cX5_says 60 = .ok (.bipush 10, 2) := by decide +kernel
theorem dX5_says_62 : decode cX5_says 62 = .ok (.isub, 1) := by decide +kernel
theorem dX5_says_63 : decode cX5_says 63 = .ok (.istore 4, 2) := by decide +kernel
theorem dX5_says_65 : decode cX5_says 65 = .ok (.aload_n 0, 1) := by decide +kernel
theorem dX5_says_66 : decode cX5_says 66 = .ok (.getfield 10, 3) := by decide +kernel
theorem dX5_says_69 : decode cX5_says 69 = .ok (.iload 4, 2) := by decide +kernel
theorem dX5_says_71 : decode cX5_says 71 = .ok (.invokevirtual 103, 3) := by decide +kernel
theorem dX5_says_74 : decode cX5_says 74 = .ok (.ifCond .eq 20, 3) := by decide +kernel
theorem dX5_says_77 : decode cX5_says 77 = .ok (.aload_n 0, 1) := by decide +kernel
theorem dX5_says_78 : decode cX5_says 78 = .ok (.getfield 10, 3) := by decide +kernel
theorem dX5_says_81 : decode cX5_says 81 = .ok (.getfield 109, 3) := by decide +kernel
theorem dX5_says_84 : decode cX5_says 84 = .ok (.iload 4, 2) := by decide +kernel
theorem dX5_says_86 : decode cX5_says 86 = .ok (.iaload, 1) := by decide +kernel
theorem dX5_says_87 : decode cX5_says 87 = .ok (.iload_n 2, 1) := by decide +kernel
theorem dX5_says_88 : decode cX5_says 88 = .ok (.invokestatic 112, 3) := by decide +kernel
theorem dX5_says_91 : decode cX5_says 91 = .ok (.ifCond .ne 10, 3) := by decide +kernel
theorem dX5_says_94 : decode cX5_says 94 = .ok (.aload_n 0, 1) := by decide +kernel
theorem dX5_says_95 : decode cX5_says 95 = .ok (.bipush (-3), 2) := by decide +kernel
theorem dX5_says_97 : decode cX5_says 97 = .ok (.invokevirtual 59, 3) := by decide +kernel
theorem dX5_says_100 : decode cX5_says 100 = .ok (.ireturn, 1) := by decide +kernel
theorem dX5_says_101 : decode cX5_says 101 = .ok (.iload_n 2, 1) := by decide +kernel
theorem dX5_says_102 : decode cX5_says 102 = .ok (.ifCond .ne 16, 3) := by decide +kernel
theorem dX5_says_105 : decode cX5_says 105 = .ok (.aload_n 0, 1) := by decide +kernel
theorem dX5_says_106 : decode cX5_says 106 = .ok (.getfield 10, 3) := by decide +kernel
theorem dX5_says_109 : decode cX5_says 109 = .ok (.getfield 115, 3) := by decide +kernel
theorem dX5_says_112 : decode cX5_says 112 = .ok (.iload 4, 2) := by decide +kernel
theorem dX5_says_114 : decode cX5_says 114 = .ok (.iaload, 1) := by decide +kernel
theorem dX5_says_115 : decode cX5_says 115 = .ok (.goto 29, 3) := by decide +kernel
theorem dX5_says_118 : decode cX5_says 118 = .ok (.aload_n 0, 1) := by decide +kernel
theorem dX5_says_119 : decode cX5_says 119 = .ok (.getfield 10, 3) := by decide +kernel
theorem dX5_says_122 : decode cX5_says 122 = .ok (.aload_n 0, 1) := by decide +kernel
theorem dX5_says_123 : decode cX5_says 123 = .ok (.getfield 10, 3) := by decide +kernel
theorem dX5_says_126 : decode cX5_says 126 = .ok (.getfield 118, 3) := by decide +kernel
theorem dX5_says_129 : decode cX5_says 129 = .ok (.iload 4, 2) := by decide +kernel
theorem dX5_says_131 : decode cX5_says 131 = .ok (.aload_n 0, 1) := by decide +kernel
theorem dX5_says_132 : decode cX5_says 132 = .ok (.getfield 10, 3) := by decide +kernel
theorem dX5_says_135 : decode cX5_says 135 = .ok (.getfield 109, 3) := by decide +kernel
theorem dX5_says_138 : decode cX5_says 138 = .ok (.iload 4, 2) := by decide +kernel
theorem dX5_says_140 : decode cX5_says 140 = .ok (.iaload, 1) := by decide +kernel
theorem dX5_says_141 : decode cX5_says 141 = .ok (.invokevirtual 121, 3) := by decide +kernel
theorem dX5_says_144 : decode cX5_says 144 = .ok (.ireturn, 1) := by decide +kernel
theorem dX5_side_0 : decode cX5_side 0 = .ok (.iload_n 1, 1) := by decide +kernel
theorem dX5_side_1 : decode cX5_side 1 = .ok (.iconst 3, 1) := by decide +kernel
theorem dX5_side_2 : decode cX5_side 2 = .ok (.if_icmp .lt 20, 3) := by decide +kernel
theorem dX5_side_5 : decode cX5_side 5 = .ok (.iload_n 1, 1) := by decide +kernel
theorem dX5_side_6 : decode cX5_side 6 = .ok (.aload_n 0, 1) := by decide +kernel
theorem dX5_side_7 : decode cX5_side 7 = .ok (.getfield 10, 3) := by decide +kernel
theorem dX5_side_10 : decode cX5_side 10 = .ok (.getfield 125, 3) := by decide +kernel
theorem dX5_side_13 : decode cX5_side 13 = .ok (.if_icmp .lt 9, 3) := by decide +kernel
theorem dX5_side_16 : decode cX5_side 16 = .ok (.iload_n 1, 1) := by decide +kernel
theorem dX5_side_17 : decode cX5_side 17 = .ok (.bipush 7, 2) := by decide +kernel
theorem dX5_side_19 : decode cX5_side 19 = .ok (.if_icmp .le 10, 3) := by decide +kernel
theorem dX5_side_22 : decode cX5_side 22 = .ok (.aload_n 0, 1) := by decide +kernel
theorem dX5_side_23 : decode cX5_side 23 = .ok (.bipush (-2), 2) := by decide +kernel
theorem dX5_side_25 : decode cX5_side 25 = .ok (.invokevirtual 59, 3) := by decide +kernel
theorem dX5_side_28 : decode cX5_side 28 = .ok (.ireturn, 1) := by decide +kernel
theorem dX5_side_29 : decode cX5_side 29 = .ok (.aload_n 0, 1) := by decide +kernel
theorem dX5_side_30 : decode cX5_side 30 = .ok (.getfield 10, 3) := by decide +kernel
theorem dX5_side_33 : decode cX5_side 33 = .ok (.getfield 125, 3) := by decide +kernel
theorem dX5_side_36 : decode cX5_side 36 = .ok (.istore_n 2, 1) := by decide +kernel
theorem dX5_side_37 : decode cX5_side 37 = .ok (.aload_n 0, 1) := by decide +kernel
theorem dX5_side_38 : decode cX5_side 38 = .ok (.getfield 10, 3) := by decide +kernel
theorem dX5_side_41 : decode cX5_side 41 = .ok (.iload_n 1, 1) := by decide +kernel
theorem dX5_side_42 : decode cX5_side 42 = .ok (.putfield 125, 3) := by decide +kernel
theorem dX5_side_45 : decode cX5_side 45 = .ok (.iload_n 2, 1) := by decide +kernel
theorem dX5_side_46 : decode cX5_side 46 = .ok (.ireturn, 1) := by decide +kernel
theorem dX5_wall_0 : decode cX5_wall 0 = .ok (.aload_n 0, 1) := by decide +kernel
theorem dX5_wall_1 : decode cX5_wall 1 = .ok (.getfield 10, 3) := by decide +kernel
theorem dX5_wall_4 : decode cX5_wall 4 = .ok (.iload_n 1, 1) := by decide +kernel
theorem dX5_wall_5 : decode cX5_wall 5 = .ok (.invokevirtual 128, 3) := by decide +kernel
theorem dX5_wall_8 : decode cX5_wall 8 = .ok (.ifCond .ne 10, 3) := by decide +kernel
theorem dX5_wall_11 : decode cX5_wall 11 = .ok (.aload_n 0, 1) := by decide +kernel
theorem dX5_wall_12 : decode cX5_wall 12 = .ok (.bipush (-2), 2) := by decide +kernel
theorem dX5_wall_14 : decode cX5_wall 14 = .ok (.invokevirtual 59, 3) := by decide +kernel
theorem dX5_wall_17 : decode cX5_wall 17 = .ok (.ireturn, 1) := by decide +kernel
theorem dX5_wall_18 : decode cX5_wall 18 = .ok (.iload_n 2, 1) := by decide +kernel
theorem dX5_wall_19 : decode cX5_wall 19 = .ok (.ifCond .eq 21, 3) := by decide +kernel
theorem dX5_wall_22 : decode cX5_wall 22 = .ok (.aload_n 0, 1) := by decide +kernel
theorem dX5_wall_23 : decode cX5_wall 23 = .ok (.getfield 10, 3) := by decide +kernel
theorem dX5_wall_26 : decode cX5_wall 26 = .ok (.iload_n 1, 1) := by decide +kernel
theorem dX5_wall_27 : decode cX5_wall 27 = .ok (.invokevirtual 131, 3) := by decide +kernel
theorem dX5_wall_30 : decode cX5_wall 30 = .ok (.ifCond .ne 10, 3) := by decide +kernel
theorem dX5_wall_33 : decode cX5_wall 33 = .ok (.aload_n 0, 1) := by decide +kernel
theorem dX5_wall_34 : decode cX5_wall 34 = .ok (.bipush (-5), 2) := by decide +kernel
theorem dX5_wall_36 : decode cX5_wall 36 = .ok (.invokevirtual 59, 3) := by decide +kernel
theorem dX5_wall_39 : decode cX5_wall 39 = .ok (.ireturn, 1) := by decide +kernel
theorem dX5_wall_40 : decode cX5_wall 40 = .ok (.aload_n 0, 1) := by decide +kernel
theorem dX5_wall_41 : decode cX5_wall 41 = .ok (.getfield 10, 3) := by decide +kernel
theorem dX5_wall_44 : decode cX5_wall 44 = .ok (.iload_n 1, 1) := by decide +kernel
theorem dX5_wall_45 : decode cX5_wall 45 = .ok (.invokevirtual 134, 3) := by decide +kernel
theorem dX5_wall_48 : decode cX5_wall 48 = .ok (.ifCond .eq 7, 3) := by decide +kernel
theorem dX5_wall_51 : decode cX5_wall 51 = .ok (.iconst 1, 1) := by decide +kernel
theorem dX5_wall_52 : decode cX5_wall 52 = .ok (.goto 4, 3) := by decide +kernel
theorem dX5_wall_55 : decode cX5_wall 55 = .ok (.iconst 0, 1) := by decide +kernel
theorem dX5_wall_56 : decode cX5_wall 56 = .ok (.istore_n 3, 1) := by decide +kernel
theorem dX5_wall_57 : decode cX5_wall 57 = .ok (.aload_n 0, 1) := by decide +kernel
theorem dX5_wall_58 : decode cX5_wall 58 = .ok (.getfield 10, 3) := by decide +kernel
theorem dX5_wall_61 : decode cX5_wall 61 = .ok (.iload_n 1, 1) := by decide +kernel
theorem dX5_wall_62 : decode cX5_wall 62 = .ok (.iload_n 2, 1) := by decide +kernel
theorem dX5_wall_63 : decode cX5_wall 63 = .ok (.invokevirtual 137, 3) := by decide +kernel
theorem dX5_wall_66 : decode cX5_wall 66 = .ok (.iload_n 3, 1) := by decide +kernel
theorem dX5_wall_67 : decode cX5_wall 67 = .ok (.ireturn, 1) := by decide +kernel
theorem dX5_pen_0 : decode cX5_pen 0 = .ok (.aload_n 0, 1) := by decide +kernel
theorem dX5_pen_1 : decode cX5_pen 1 = .ok (.getfield 10, 3) := by decide +kernel
theorem dX5_pen_4 : decode cX5_pen 4 = .ok (.iload_n 1, 1) := by decide +kernel
theorem dX5_pen_5 : decode cX5_pen 5 = .ok (.invokevirtual 128, 3) := by decide +kernel
theorem dX5_pen_8 : decode cX5_pen 8 = .ok (.ifCond .ne 10, 3) := by decide +kernel
theorem dX5_pen_11 : decode cX5_pen 11 = .ok (.aload_n 0, 1) := by decide +kernel
theorem dX5_pen_12 : decode cX5_pen 12 = .ok (.bipush (-2), 2) := by decide +kernel
theorem dX5_pen_14 : decode cX5_pen 14 = .ok (.invokevirtual 59, 3) := by decide +kernel
theorem dX5_pen_17 : decode cX5_pen 17 = .ok (.ireturn, 1) := by decide +kernel
theorem dX5_pen_18 : decode cX5_pen 18 = .ok (.aload_n 0, 1) := by decide +kernel
theorem dX5_pen_19 : decode cX5_pen 19 = .ok (.getfield 10, 3) := by decide +kernel
theorem dX5_pen_22 : decode cX5_pen 22 = .ok (.iload_n 1, 1) := by decide +kernel
theorem dX5_pen_23 : decode cX5_pen 23 = .ok (.invokevirtual 141, 3) := by decide +kernel
theorem dX5_pen_26 : decode cX5_pen 26 = .ok (.ifCond .ne 10, 3) := by decide +kernel
theorem dX5_pen_29 : decode cX5_pen 29 = .ok (.aload_n 0, 1) := by decide +kernel
theorem dX5_pen_30 : decode cX5_pen 30 = .ok (.bipush (-5), 2) := by decide +kernel
theorem dX5_pen_32 : decode cX5_pen 32 = .ok (.invokevirtual 59, 3) := by decide +kernel
theorem dX5_pen_35 : decode cX5_pen 35 = .ok (.ireturn, 1) := by decide +kernel
theorem dX5_pen_36 : decode cX5_pen 36 = .ok (.aload_n 0, 1) := by decide +kernel
theorem dX5_pen_37 : decode cX5_pen 37 = .ok (.getfield 10, 3) := by decide +kernel
theorem dX5_pen_40 : decode cX5_pen 40 = .ok (.getfield 144, 3) := by decide +kernel
theorem dX5_pen_43 : decode cX5_pen 43 = .ok (.istore_n 2, 1) := by decide +kernel
theorem dX5_pen_44 : decode cX5_pen 44 = .ok (.aload_n 0, 1) := by decide +kernel
theorem dX5_pen_45 : decode cX5_pen 45 = .ok (.getfield 10, 3) := by decide +kernel
theorem dX5_pen_48 : decode cX5_pen 48 = .ok (.iload_n 1, 1) := by decide +kernel
theorem dX5_pen_49 : decode cX5_pen 49 = .ok (.putfield 144, 3) := by decide +kernel
theorem dX5_pen_52 : decode cX5_pen 52 = .ok (.iload_n 2, 1) := by decide +kernel
theorem dX5_pen_53 : decode cX5_pen 53 = .ok (.ireturn, 1) := by decide +kernel
theorem dX5_dog_0 : decode cX5_dog 0 = .ok (.aload_n 0, 1) := by decide +kernel
theorem dX5_dog_1 : decode cX5_dog 1 = .ok (.getfield 10, 3) := by decide +kernel
theorem dX5_dog_4 : decode cX5_dog 4 = .ok (.iload_n 1, 1) := by decide +kernel
theorem dX5_dog_5 : decode cX5_dog 5 = .ok (.invokevirtual 128, 3) := by decide +kernel
theorem dX5_dog_8 : decode cX5_dog 8 = .ok (.ifCond .ne 10, 3) := by decide +kernel
theorem dX5_dog_11 : decode cX5_dog 11 = .ok (.aload_n 0, 1) := by decide +kernel
theorem dX5_dog_12 : decode cX5_dog 12 = .ok (.bipush (-2), 2) := by decide +kernel
theorem dX5_dog_14 : decode cX5_dog 14 = .ok (.invokevirtual 59, 3) := by decide +kernel
theorem dX5_dog_17 : decode cX5_dog 17 = .ok (.ireturn, 1) := by decide +kernel
theorem dX5_dog_18 : decode cX5_dog 18 = .ok (.aload_n 0, 1) := by decide +kernel
theorem dX5_dog_19 : decode cX5_dog 19 = .ok (.getfield 10, 3) := by decide +kernel
theorem dX5_dog_22 : decode cX5_dog 22 = .ok (.iload_n 1, 1) := by decide +kernel
theorem dX5_dog_23 : decode cX5_dog 23 = .ok (.invokevirtual 147, 3) := by decide +kernel
theorem dX5_dog_26 : decode cX5_dog 26 = .ok (.ifCond .ne 10, 3) := by decide +kernel
theorem dX5_dog_29 : decode cX5_dog 29 = .ok (.aload_n 0, 1) := by decide +kernel
theorem dX5_dog_30 : decode cX5_dog 30 = .ok (.bipush (-5), 2) := by decide +kernel
theorem dX5_dog_32 : decode cX5_dog 32 = .ok (.invokevirtual 59, 3) := by decide +kernel
theorem dX5_dog_35 : decode cX5_dog 35 = .ok (.ireturn, 1) := by decide +kernel
theorem dX5_dog_36 : decode cX5_dog 36 = .ok (.aload_n 0, 1) := by decide +kernel
theorem dX5_dog_37 : decode cX5_dog 37 = .ok (.getfield 10, 3) := by decide +kernel
theorem dX5_dog_40 : decode cX5_dog 40 = .ok (.getfield 118, 3) := by decide +kernel
theorem dX5_dog_43 : decode cX5_dog 43 = .ok (.getfield 150, 3) := by decide +kernel
theorem dX5_dog_46 : decode cX5_dog 46 = .ok (.istore_n 2, 1) := by decide +kernel
theorem dX5_dog_47 : decode cX5_dog 47 = .ok (.aload_n 0, 1) := by decide +kernel
theorem dX5_dog_48 : decode cX5_dog 48 = .ok (.getfield 10, 3) := by decide +kernel
theorem dX5_dog_51 : decode cX5_dog 51 = .ok (.getfield 118, 3) := by decide +kernel
theorem dX5_dog_54 : decode cX5_dog 54 = .ok (.iload_n 1, 1) := by decide +kernel
theorem dX5_dog_55 : decode cX5_dog 55 = .ok (.putfield 150, 3) := by decide +kernel
theorem dX5_dog_58 : decode cX5_dog 58 = .ok (.iload_n 2, 1) := by decide +kernel
theorem dX5_dog_59 : decode cX5_dog 59 = .ok (.ireturn, 1) := by decide +kernel
theorem dX5_ewe_0 : decode cX5_ewe 0 = .ok (.iload_n 1, 1) := by decide +kernel
theorem dX5_ewe_1 : decode cX5_ewe 1 = .ok (.invokestatic 106, 3) := by decide +kernel
theorem dX5_ewe_4 : decode cX5_ewe 4 = .ok (.ifCond .eq 24, 3) := by decide +kernel
theorem dX5_ewe_7 : decode cX5_ewe 7 = .ok (.iload_n 2, 1) := by decide +kernel
theorem dX5_ewe_8 : decode cX5_ewe 8 = .ok (.ifCond .lt 20, 3) := by decide +kernel
theorem dX5_ewe_11 : decode cX5_ewe 11 = .ok (.iload_n 2, 1) := by decide +kernel
theorem dX5_ewe_12 : decode cX5_ewe 12 = .ok (.bipush 9, 2) := by decide +kernel
theorem dX5_ewe_14 : decode cX5_ewe 14 = .ok (.if_icmp .gt 14, 3) := by decide +kernel
theorem dX5_ewe_17 : decode cX5_ewe 17 = .ok (.aload_n 0, 1) := by decide +kernel
theorem dX5_ewe_18 : decode cX5_ewe 18 = .ok (.getfield 10, 3) := by decide +kernel
theorem dX5_ewe_21 : decode cX5_ewe 21 = .ok (.iload_n 3, 1) := by decide +kernel
theorem dX5_ewe_22 : decode cX5_ewe 22 = .ok (.invokevirtual 128, 3) := by decide +kernel
theorem dX5_ewe_25 : decode cX5_ewe 25 = .ok (.ifCond .ne 10, 3) := by decide +kernel
theorem dX5_ewe_28 : decode cX5_ewe 28 = .ok (.aload_n 0, 1) := by decide +kernel
theorem dX5_ewe_29 : decode cX5_ewe 29 = .ok (.bipush (-2), 2) := by decide +kernel
theorem dX5_ewe_31 : decode cX5_ewe 31 = .ok (.invokevirtual 59, 3) := by decide +kernel
theorem dX5_ewe_34 : decode cX5_ewe 34 = .ok (.ireturn, 1) := by decide +kernel
theorem dX5_ewe_35 : decode cX5_ewe 35 = .ok (.aload_n 0, 1) := by decide +kernel
theorem dX5_ewe_36 : decode cX5_ewe 36 = .ok (.getfield 10, 3) := by decide +kernel
theorem dX5_ewe_39 : decode cX5_ewe 39 = .ok (.iload_n 3, 1) := by decide +kernel
theorem dX5_ewe_40 : decode cX5_ewe 40 = .ok (.invokevirtual 153, 3) := by decide +kernel
theorem dX5_ewe_43 : decode cX5_ewe 43 = .ok (.ifCond .ne 10, 3) := by decide +kernel
theorem dX5_ewe_46 : decode cX5_ewe 46 = .ok (.aload_n 0, 1) := by decide +kernel
theorem dX5_ewe_47 : decode cX5_ewe 47 = .ok (.bipush (-5), 2) := by decide +kernel
theorem dX5_ewe_49 : decode cX5_ewe 49 = .ok (.invokevirtual 59, 3) := by decide +kernel
theorem dX5_ewe_52 : decode cX5_ewe 52 = .ok (.ireturn, 1) := by decide +kernel
theorem dX5_ewe_53 : decode cX5_ewe 53 = .ok (.aload_n 0, 1) := by decide +kernel
theorem dX5_ewe_54 : decode cX5_ewe 54 = .ok (.getfield 10, 3) := by decide +kernel
theorem dX5_ewe_57 : decode cX5_ewe 57 = .ok (.getfield 156, 3) := by decide +kernel
theorem dX5_ewe_60 : decode cX5_ewe 60 = .ok (.iconst 5, 1) := by decide +kernel
theorem dX5_ewe_61 : decode cX5_ewe 61 = .ok (.if_icmp .lt 10, 3) := by decide +kernel
theorem dX5_ewe_64 : decode cX5_ewe 64 = .ok (.aload_n 0, 1) := by decide +kernel
theorem dX5_ewe_65 : decode cX5_ewe 65 = .ok (.bipush (-6), 2) := by decide +kernel
theorem dX5_ewe_67 : decode cX5_ewe 67 = .ok (.invokevirtual 59, 3) := by decide +kernel
theorem dX5_ewe_70 : decode cX5_ewe 70 = .ok (.ireturn, 1) := by decide +kernel
theorem dX5_ewe_71 : decode cX5_ewe 71 = .ok (.aload_n 0, 1) := by decide +kernel
theorem dX5_ewe_72 : decode cX5_ewe 72 = .ok (.getfield 10, 3) := by decide +kernel
theorem dX5_ewe_75 : decode cX5_ewe 75 = .ok (.iload_n 1, 1) := by decide +kernel
theorem dX5_ewe_76 : decode cX5_ewe 76 = .ok (.iload_n 2, 1) := by decide +kernel
theorem dX5_ewe_77 : decode cX5_ewe 77 = .ok (.iload_n 3, 1) := by decide +kernel
theorem dX5_ewe_78 : decode cX5_ewe 78 = .ok (.invokevirtual 159, 3) := by decide +kernel
theorem dX5_ewe_81 : decode cX5_ewe 81 = .ok (.ireturn, 1) := by decide +kernel
theorem dX5_move_0 : decode cX5_move 0 = .ok (.aload_n 0, 1) := by decide +kernel
theorem dX5_move_1 : decode cX5_move 1 = .ok (.getfield 10, 3) := by decide +kernel
theorem dX5_move_4 : decode cX5_move 4 = .ok (.iload_n 1, 1) := by decide +kernel
theorem dX5_move_5 : decode cX5_move 5 = .ok (.invokevirtual 103, 3) := by decide +kernel
theorem dX5_move_8 : decode cX5_move 8 = .ok (.ifCond .eq 14, 3) := by decide +kernel
theorem dX5_move_11 : decode cX5_move 11 = .ok (.aload_n 0, 1) := by decide +kernel
theorem dX5_move_12 : decode cX5_move 12 = .ok (.getfield 10, 3) := by decide +kernel
theorem dX5_move_15 : decode cX5_move 15 = .ok (.iload_n 2, 1) := by decide +kernel
theorem dX5_move_16 : decode cX5_move 16 = .ok (.invokevirtual 128, 3) := by decide +kernel
theorem dX5_move_19 : decode cX5_move 19 = .ok (.ifCond .ne 10, 3) := by decide +kernel
theorem dX5_move_22 : decode cX5_move 22 = .ok (.aload_n 0, 1) := by decide +kernel
theorem dX5_move_23 : decode cX5_move 23 = .ok (.bipush (-2), 2) := by decide +kernel
theorem dX5_move_25 : decode cX5_move 25 = .ok (.invokevirtual 59, 3) := by decide +kernel
theorem dX5_move_28 : decode cX5_move 28 = .ok (.ireturn, 1) := by decide +kernel
theorem dX5_move_29 : decode cX5_move 29 = .ok (.aload_n 0, 1) := by decide +kernel
theorem dX5_move_30 : decode cX5_move 30 = .ok (.getfield 10, 3) := by decide +kernel
theorem dX5_move_33 : decode cX5_move 33 = .ok (.iload_n 2, 1) := by decide +kernel
theorem dX5_move_34 : decode cX5_move 34 = .ok (.invokevirtual 153, 3) := by decide +kernel
theorem dX5_move_37 : decode cX5_move 37 = .ok (.ifCond .ne 10, 3) := by decide +kernel
theorem dX5_move_40 : decode cX5_move 40 = .ok (.aload_n 0, 1) := by decide +kernel
theorem dX5_move_41 : decode cX5_move 41 = .ok (.bipush (-5), 2) := by decide +kernel
theorem dX5_move_43 : decode cX5_move 43 = .ok (.invokevirtual 59, 3) := by decide +kernel
theorem dX5_move_46 : decode cX5_move 46 = .ok (.ireturn, 1) := by decide +kernel
theorem dX5_move_47 : decode cX5_move 47 = .ok (.aload_n 0, 1) := by decide +kernel
theorem dX5_move_48 : decode cX5_move 48 = .ok (.getfield 10, 3) := by decide +kernel
theorem dX5_move_51 : decode cX5_move 51 = .ok (.getfield 118, 3) := by decide +kernel
theorem dX5_move_54 : decode cX5_move 54 = .ok (.getfield 162, 3) := by decide +kernel
theorem dX5_move_57 : decode cX5_move 57 = .ok (.iload_n 1, 1) := by decide +kernel
theorem dX5_move_58 : decode cX5_move 58 = .ok (.iaload, 1) := by decide +kernel
theorem dX5_move_59 : decode cX5_move 59 = .ok (.istore_n 3, 1) := by decide +kernel
theorem dX5_move_60 : decode cX5_move 60 = .ok (.aload_n 0, 1) := by decide +kernel
theorem dX5_move_61 : decode cX5_move 61 = .ok (.getfield 10, 3) := by decide +kernel
theorem dX5_move_64 : decode cX5_move 64 = .ok (.getfield 118, 3) := by decide +kernel
theorem dX5_move_67 : decode cX5_move 67 = .ok (.getfield 162, 3) := by decide +kernel
theorem dX5_move_70 : decode cX5_move 70 = .ok (.iload_n 1, 1) := by decide +kernel
theorem dX5_move_71 : decode cX5_move 71 = .ok (.iload_n 2, 1) := by decide +kernel
theorem dX5_move_72 : decode cX5_move 72 = .ok (.iastore, 1) := by decide +kernel
theorem dX5_move_73 : decode cX5_move 73 = .ok (.iload_n 3, 1) := by decide +kernel
theorem dX5_move_74 : decode cX5_move 74 = .ok (.ireturn, 1) := by decide +kernel
theorem dX5_wind_0 : decode cX5_wind 0 = .ok (.iload_n 1, 1) := by decide +kernel
theorem dX5_wind_1 : decode cX5_wind 1 = .ok (.ifCond .lt 9, 3) := by decide +kernel
theorem dX5_wind_4 : decode cX5_wind 4 = .ok (.iload_n 1, 1) := by decide +kernel
theorem dX5_wind_5 : decode cX5_wind 5 = .ok (.bipush 12, 2) := by decide +kernel
theorem dX5_wind_7 : decode cX5_wind 7 = .ok (.if_icmp .le 10, 3) := by decide +kernel
theorem dX5_wind_10 : decode cX5_wind 10 = .ok (.aload_n 0, 1) := by decide +kernel
theorem dX5_wind_11 : decode cX5_wind 11 = .ok (.bipush (-2), 2) := by decide +kernel
theorem dX5_wind_13 : decode cX5_wind 13 = .ok (.invokevirtual 59, 3) := by decide +kernel
theorem dX5_wind_16 : decode cX5_wind 16 = .ok (.ireturn, 1) := by decide +kernel
theorem dX5_wind_17 : decode cX5_wind 17 = .ok (.aload_n 0, 1) := by decide +kernel
theorem dX5_wind_18 : decode cX5_wind 18 = .ok (.getfield 10, 3) := by decide +kernel
theorem dX5_wind_21 : decode cX5_wind 21 = .ok (.getfield 165, 3) := by decide +kernel
theorem dX5_wind_24 : decode cX5_wind 24 = .ok (.istore_n 2, 1) := by decide +kernel
theorem dX5_wind_25 : decode cX5_wind 25 = .ok (.aload_n 0, 1) := by decide +kernel
theorem dX5_wind_26 : decode cX5_wind 26 = .ok (.getfield 10, 3) := by decide +kernel
theorem dX5_wind_29 : decode cX5_wind 29 = .ok (.iload_n 1, 1) := by decide +kernel
theorem dX5_wind_30 : decode cX5_wind 30 = .ok (.putfield 165, 3) := by decide +kernel
theorem dX5_wind_33 : decode cX5_wind 33 = .ok (.iload_n 2, 1) := by decide +kernel
theorem dX5_wind_34 : decode cX5_wind 34 = .ok (.ireturn, 1) := by decide +kernel
theorem dX5_feed_0 : decode cX5_feed 0 = .ok (.iload_n 1, 1) := by decide +kernel
theorem dX5_feed_1 : decode cX5_feed 1 = .ok (.ifCond .lt 10, 3) := by decide +kernel
theorem dX5_feed_4 : decode cX5_feed 4 = .ok (.iload_n 1, 1) := by decide +kernel
theorem dX5_feed_5 : decode cX5_feed 5 = .ok (.sipush 255, 3) := by decide +kernel
theorem dX5_feed_8 : decode cX5_feed 8 = .ok (.if_icmp .le 10, 3) := by decide +kernel
theorem dX5_feed_11 : decode cX5_feed 11 = .ok (.aload_n 0, 1) := by decide +kernel
theorem dX5_feed_12 : decode cX5_feed 12 = .ok (.bipush (-2), 2) := by decide +kernel
theorem dX5_feed_14 : decode cX5_feed 14 = .ok (.invokevirtual 59, 3) := by decide +kernel
theorem dX5_feed_17 : decode cX5_feed 17 = .ok (.ireturn, 1) := by decide +kernel
theorem dX5_feed_18 : decode cX5_feed 18 = .ok (.aload_n 0, 1) := by decide +kernel
theorem dX5_feed_19 : decode cX5_feed 19 = .ok (.getfield 26, 3) := by decide +kernel
theorem dX5_feed_22 : decode cX5_feed 22 = .ok (.getfield 168, 3) := by decide +kernel
theorem dX5_feed_25 : decode cX5_feed 25 = .ok (.sipush 250, 3) := by decide +kernel
theorem dX5_feed_28 : decode cX5_feed 28 = .ok (.if_icmp .lt 10, 3) := by decide +kernel
theorem dX5_feed_31 : decode cX5_feed 31 = .ok (.aload_n 0, 1) := by decide +kernel
theorem dX5_feed_32 : decode cX5_feed 32 = .ok (.bipush (-6), 2) := by decide +kernel
theorem dX5_feed_34 : decode cX5_feed 34 = .ok (.invokevirtual 59, 3) := by decide +kernel
theorem dX5_feed_37 : decode cX5_feed 37 = .ok (.ireturn, 1) := by decide +kernel
theorem dX5_feed_38 : decode cX5_feed 38 = .ok (.aload_n 0, 1) := by decide +kernel
theorem dX5_feed_39 : decode cX5_feed 39 = .ok (.getfield 26, 3) := by decide +kernel
theorem dX5_feed_42 : decode cX5_feed 42 = .ok (.getfield 169, 3) := by decide +kernel
theorem dX5_feed_45 : decode cX5_feed 45 = .ok (.aload_n 0, 1) := by decide +kernel
theorem dX5_feed_46 : decode cX5_feed 46 = .ok (.getfield 26, 3) := by decide +kernel
theorem dX5_feed_49 : decode cX5_feed 49 = .ok (.getfield 168, 3) := by decide +kernel
theorem dX5_feed_52 : decode cX5_feed 52 = .ok (.iload_n 1, 1) := by decide +kernel
theorem dX5_feed_53 : decode cX5_feed 53 = .ok (.iastore, 1) := by decide +kernel
theorem dX5_feed_54 : decode cX5_feed 54 = .ok (.aload_n 0, 1) := by decide +kernel
theorem dX5_feed_55 : decode cX5_feed 55 = .ok (.getfield 26, 3) := by decide +kernel
theorem dX5_feed_58 : decode cX5_feed 58 = .ok (.dup, 1) := by decide +kernel
theorem dX5_feed_59 : decode cX5_feed 59 = .ok (.getfield 168, 3) := by decide +kernel
theorem dX5_feed_62 : decode cX5_feed 62 = .ok (.iconst 1, 1) := by decide +kernel
theorem dX5_feed_63 : decode cX5_feed 63 = .ok (.iadd, 1) := by decide +kernel
theorem dX5_feed_64 : decode cX5_feed 64 = .ok (.putfield 168, 3) := by decide +kernel
theorem dX5_feed_67 : decode cX5_feed 67 = .ok (.aload_n 0, 1) := by decide +kernel
theorem dX5_feed_68 : decode cX5_feed 68 = .ok (.getfield 26, 3) := by decide +kernel
theorem dX5_feed_71 : decode cX5_feed 71 = .ok (.getfield 168, 3) := by decide +kernel
theorem dX5_feed_74 : decode cX5_feed 74 = .ok (.ireturn, 1) := by decide +kernel
theorem dX5_wipe_0 : decode cX5_wipe 0 = .ok (.aload_n 0, 1) := by decide +kernel
theorem dX5_wipe_1 : decode cX5_wipe 1 = .ok (.getfield 26, 3) := by decide +kernel
theorem dX5_wipe_4 : decode cX5_wipe 4 = .ok (.getfield 168, 3) := by decide +kernel
theorem dX5_wipe_7 : decode cX5_wipe 7 = .ok (.istore_n 1, 1) := by decide +kernel
theorem dX5_wipe_8 : decode cX5_wipe 8 = .ok (.aload_n 0, 1) := by decide +kernel
theorem dX5_wipe_9 : decode cX5_wipe 9 = .ok (.getfield 26, 3) := by decide +kernel
theorem dX5_wipe_12 : decode cX5_wipe 12 = .ok (.iconst 0, 1) := by decide +kernel
theorem dX5_wipe_13 : decode cX5_wipe 13 = .ok (.putfield 168, 3) := by decide +kernel
theorem dX5_wipe_16 : decode cX5_wipe 16 = .ok (.iload_n 1, 1) := by decide +kernel
theorem dX5_wipe_17 : decode cX5_wipe 17 = .ok (.ireturn, 1) := by decide +kernel
theorem dX5_hill_0 : decode cX5_hill 0 = .ok (.aload_n 0, 1) := by decide +kernel
theorem dX5_hill_1 : decode cX5_hill 1 = .ok (.getfield 26, 3) := by decide +kernel
theorem dX5_hill_4 : decode cX5_hill 4 = .ok (.aload_n 0, 1) := by decide +kernel
theorem dX5_hill_5 : decode cX5_hill 5 = .ok (.getfield 10, 3) := by decide +kernel
theorem dX5_hill_8 : decode cX5_hill 8 = .ok (.invokevirtual 172, 3) := by decide +kernel
theorem dX5_hill_11 : decode cX5_hill 11 = .ok (.istore_n 1, 1) := by decide +kernel
theorem dX5_hill_12 : decode cX5_hill 12 = .ok (.aload_n 0, 1) := by decide +kernel
theorem dX5_hill_13 : decode cX5_hill 13 = .ok (.getfield 26, 3) := by decide +kernel
theorem dX5_hill_16 : decode cX5_hill 16 = .ok (.iconst 0, 1) := by decide +kernel
theorem dX5_hill_17 : decode cX5_hill 17 = .ok (.putfield 168, 3) := by decide +kernel
theorem dX5_hill_20 : decode cX5_hill 20 = .ok (.iload_n 1, 1) := by decide +kernel
theorem dX5_hill_21 : decode cX5_hill 21 = .ok (.ifCond .ge 12, 3) := by decide +kernel
theorem dX5_hill_24 : decode cX5_hill 24 = .ok (.aload_n 0, 1) := by decide +kernel
theorem dX5_hill_25 : decode cX5_hill 25 = .ok (.bipush (-2), 2) := by decide +kernel
theorem dX5_hill_27 : decode cX5_hill 27 = .ok (.invokevirtual 59, 3) := by decide +kernel
theorem dX5_hill_30 : decode cX5_hill 30 = .ok (.pop, 1) := by decide +kernel
theorem dX5_hill_31 : decode cX5_hill 31 = .ok (.iload_n 1, 1) := by decide +kernel
theorem dX5_hill_32 : decode cX5_hill 32 = .ok (.ireturn, 1) := by decide +kernel
theorem dX5_hill_33 : decode cX5_hill 33 = .ok (.aload_n 0, 1) := by decide +kernel
theorem dX5_hill_34 : decode cX5_hill 34 = .ok (.getfield 10, 3) := by decide +kernel
theorem dX5_hill_37 : decode cX5_hill 37 = .ok (.aload_n 0, 1) := by decide +kernel
theorem dX5_hill_38 : decode cX5_hill 38 = .ok (.getfield 26, 3) := by decide +kernel
theorem dX5_hill_41 : decode cX5_hill 41 = .ok (.getfield 176, 3) := by decide +kernel
theorem dX5_hill_44 : decode cX5_hill 44 = .ok (.invokevirtual 179, 3) := by decide +kernel
theorem dX5_hill_47 : decode cX5_hill 47 = .ok (.iload_n 1, 1) := by decide +kernel
theorem dX5_hill_48 : decode cX5_hill 48 = .ok (.ireturn, 1) := by decide +kernel
theorem dX5_eweOf_0 : decode cX5_eweOf 0 = .ok (.aload_n 0, 1) := by decide +kernel
theorem dX5_eweOf_1 : decode cX5_eweOf 1 = .ok (.getfield 10, 3) := by decide +kernel
theorem dX5_eweOf_4 : decode cX5_eweOf 4 = .ok (.iload_n 1, 1) := by decide +kernel
theorem dX5_eweOf_5 : decode cX5_eweOf 5 = .ok (.invokevirtual 103, 3) := by decide +kernel
theorem dX5_eweOf_8 : decode cX5_eweOf 8 = .ok (.ifCond .ne 10, 3) := by decide +kernel
theorem dX5_eweOf_11 : decode cX5_eweOf 11 = .ok (.aload_n 0, 1) := by decide +kernel
theorem dX5_eweOf_12 : decode cX5_eweOf 12 = .ok (.bipush (-2), 2) := by decide +kernel
theorem dX5_eweOf_14 : decode cX5_eweOf 14 = .ok (.invokevirtual 59, 3) := by decide +kernel
theorem dX5_eweOf_17 : decode cX5_eweOf 17 = .ok (.ireturn, 1) := by decide +kernel
theorem dX5_eweOf_18 : decode cX5_eweOf 18 = .ok (.aload_n 0, 1) := by decide +kernel
theorem dX5_eweOf_19 : decode cX5_eweOf 19 = .ok (.getfield 10, 3) := by decide +kernel
theorem dX5_eweOf_22 : decode cX5_eweOf 22 = .ok (.getfield 118, 3) := by decide +kernel
theorem dX5_eweOf_25 : decode cX5_eweOf 25 = .ok (.getfield 162, 3) := by decide +kernel
theorem dX5_eweOf_28 : decode cX5_eweOf 28 = .ok (.iload_n 1, 1) := by decide +kernel
theorem dX5_eweOf_29 : decode cX5_eweOf 29 = .ok (.iaload, 1) := by decide +kernel
theorem dX5_eweOf_30 : decode cX5_eweOf 30 = .ok (.istore_n 3, 1) := by decide +kernel
theorem dX5_eweOf_31 : decode cX5_eweOf 31 = .ok (.iload_n 2, 1) := by decide +kernel
theorem dX5_eweOf_32 : decode cX5_eweOf 32 = .ok (.tableswitch 106 0 5 #[40, 50, 60, 62, 79, 94], 40) := by decide +kernel
theorem dX5_eweOf_72 : decode cX5_eweOf 72 = .ok (.aload_n 0, 1) := by decide +kernel
theorem dX5_eweOf_73 : decode cX5_eweOf 73 = .ok (.getfield 10, 3) := by decide +kernel
theorem dX5_eweOf_76 : decode cX5_eweOf 76 = .ok (.getfield 109, 3) := by decide +kernel
theorem dX5_eweOf_79 : decode cX5_eweOf 79 = .ok (.iload_n 1, 1) := by decide +kernel
theorem dX5_eweOf_80 : decode cX5_eweOf 80 = .ok (.iaload, 1) := by decide +kernel
theorem dX5_eweOf_81 : decode cX5_eweOf 81 = .ok (.ireturn, 1) := by decide +kernel
theorem dX5_eweOf_82 : decode cX5_eweOf 82 = .ok (.aload_n 0, 1) := by decide +kernel
theorem dX5_eweOf_83 : decode cX5_eweOf 83 = .ok (.getfield 10, 3) := by decide +kernel
theorem dX5_eweOf_86 : decode cX5_eweOf 86 = .ok (.getfield 115, 3) := by decide +kernel
theorem dX5_eweOf_89 : decode cX5_eweOf 89 = .ok (.iload_n 1, 1) := by decide +kernel
theorem dX5_eweOf_90 : decode cX5_eweOf 90 = .ok (.iaload, 1) := by decide +kernel
theorem dX5_eweOf_91 : decode cX5_eweOf 91 = .ok (.ireturn, 1) := by decide +kernel
theorem dX5_eweOf_92 : decode cX5_eweOf 92 = .ok (.iload_n 3, 1) := by decide +kernel
theorem dX5_eweOf_93 : decode cX5_eweOf 93 = .ok (.ireturn, 1) := by decide +kernel
theorem dX5_eweOf_94 : decode cX5_eweOf 94 = .ok (.iload_n 3, 1) := by decide +kernel
theorem dX5_eweOf_95 : decode cX5_eweOf 95 = .ok (.aload_n 0, 1) := by decide +kernel
theorem dX5_eweOf_96 : decode cX5_eweOf 96 = .ok (.getfield 10, 3) := by decide +kernel
theorem dX5_eweOf_99 : decode cX5_eweOf 99 = .ok (.getfield 144, 3) := by decide +kernel
theorem dX5_eweOf_102 : decode cX5_eweOf 102 = .ok (.if_icmp .ne 7, 3) := by decide +kernel
theorem dX5_eweOf_105 : decode cX5_eweOf 105 = .ok (.iconst 1, 1) := by decide +kernel
theorem dX5_eweOf_106 : decode cX5_eweOf 106 = .ok (.goto 4, 3) := by decide +kernel
theorem dX5_eweOf_109 : decode cX5_eweOf 109 = .ok (.iconst 0, 1) := by decide +kernel
theorem dX5_eweOf_110 : decode cX5_eweOf 110 = .ok (.ireturn, 1) := by decide +kernel
theorem dX5_eweOf_111 : decode cX5_eweOf 111 = .ok (.iload_n 3, 1) := by decide +kernel
theorem dX5_eweOf_112 : decode cX5_eweOf 112 = .ok (.aload_n 0, 1) := by decide +kernel
theorem dX5_eweOf_113 : decode cX5_eweOf 113 = .ok (.getfield 10, 3) := by decide +kernel
theorem dX5_eweOf_116 : decode cX5_eweOf 116 = .ok (.getfield 118, 3) := by decide +kernel
theorem dX5_eweOf_119 : decode cX5_eweOf 119 = .ok (.getfield 150, 3) := by decide +kernel
theorem dX5_eweOf_122 : decode cX5_eweOf 122 = .ok (.invokestatic 183, 3) := by decide +kernel
theorem dX5_eweOf_125 : decode cX5_eweOf 125 = .ok (.ireturn, 1) := by decide +kernel
theorem dX5_eweOf_126 : decode cX5_eweOf 126 = .ok (.iload_n 3, 1) := by decide +kernel
theorem dX5_eweOf_127 : decode cX5_eweOf 127 = .ok (.aload_n 0, 1) := by decide +kernel
theorem dX5_eweOf_128 : decode cX5_eweOf 128 = .ok (.getfield 10, 3) := by decide +kernel
theorem dX5_eweOf_131 : decode cX5_eweOf 131 = .ok (.getfield 144, 3) := by decide +kernel
theorem dX5_eweOf_134 : decode cX5_eweOf 134 = .ok (.invokestatic 183, 3) := by decide +kernel
theorem dX5_eweOf_137 : decode cX5_eweOf 137 = .ok (.ireturn, 1) := by decide +kernel
theorem dX5_eweOf_138 : decode cX5_eweOf 138 = .ok (.aload_n 0, 1) := by decide +kernel
theorem dX5_eweOf_139 : decode cX5_eweOf 139 = .ok (.bipush (-2), 2) := by decide +kernel
theorem dX5_eweOf_141 : decode cX5_eweOf 141 = .ok (.invokevirtual 59, 3) := by decide +kernel
theorem dX5_eweOf_144 : decode cX5_eweOf 144 = .ok (.ireturn, 1) := by decide +kernel
theorem dX5_hasWall_0 : decode cX5_hasWall 0 = .ok (.aload_n 0, 1) := by decide +kernel
theorem dX5_hasWall_1 : decode cX5_hasWall 1 = .ok (.getfield 10, 3) := by decide +kernel
theorem dX5_hasWall_4 : decode cX5_hasWall 4 = .ok (.iload_n 1, 1) := by decide +kernel
theorem dX5_hasWall_5 : decode cX5_hasWall 5 = .ok (.invokevirtual 128, 3) := by decide +kernel
theorem dX5_hasWall_8 : decode cX5_hasWall 8 = .ok (.ifCond .ne 10, 3) := by decide +kernel
theorem dX5_hasWall_11 : decode cX5_hasWall 11 = .ok (.aload_n 0, 1) := by decide +kernel
theorem dX5_hasWall_12 : decode cX5_hasWall 12 = .ok (.bipush (-2), 2) := by decide +kernel
theorem dX5_hasWall_14 : decode cX5_hasWall 14 = .ok (.invokevirtual 59, 3) := by decide +kernel
theorem dX5_hasWall_17 : decode cX5_hasWall 17 = .ok (.ireturn, 1) := by decide +kernel
theorem dX5_hasWall_18 : decode cX5_hasWall 18 = .ok (.aload_n 0, 1) := by decide +kernel
theorem dX5_hasWall_19 : decode cX5_hasWall 19 = .ok (.getfield 10, 3) := by decide +kernel
theorem dX5_hasWall_22 : decode cX5_hasWall 22 = .ok (.iload_n 1, 1) := by decide +kernel
theorem dX5_hasWall_23 : decode cX5_hasWall 23 = .ok (.invokevirtual 134, 3) := by decide +kernel
theorem dX5_hasWall_26 : decode cX5_hasWall 26 = .ok (.ifCond .eq 7, 3) := by decide +kernel
theorem dX5_hasWall_29 : decode cX5_hasWall 29 = .ok (.iconst 1, 1) := by decide +kernel
theorem dX5_hasWall_30 : decode cX5_hasWall 30 = .ok (.goto 4, 3) := by decide +kernel
theorem dX5_hasWall_33 : decode cX5_hasWall 33 = .ok (.iconst 0, 1) := by decide +kernel
theorem dX5_hasWall_34 : decode cX5_hasWall 34 = .ok (.ireturn, 1) := by decide +kernel
theorem dX5_fewest_0 : decode cX5_fewest 0 = .ok (.iload_n 1, 1) := by decide +kernel
theorem dX5_fewest_1 : decode cX5_fewest 1 = .ok (.ifCond .lt 14, 3) := by decide +kernel
theorem dX5_fewest_4 : decode cX5_fewest 4 = .ok (.iload_n 1, 1) := by decide +kernel
theorem dX5_fewest_5 : decode cX5_fewest 5 = .ok (.bipush 6, 2) := by decide +kernel
theorem dX5_fewest_7 : decode cX5_fewest 7 = .ok (.if_icmp .gt 8, 3) := by decide +kernel
theorem dX5_fewest_10 : decode cX5_fewest 10 = .ok (.iload_n 2, 1) := by decide +kernel
theorem dX5_fewest_11 : decode cX5_fewest 11 = .ok (.iconst (-1), 1) := by decide +kernel
theorem dX5_fewest_12 : decode cX5_fewest 12 = .ok (.if_icmp .ge 10, 3) := by decide +kernel
theorem dX5_fewest_15 : decode cX5_fewest 15 = .ok (.aload_n 0, 1) := by decide +kernel
theorem dX5_fewest_16 : decode cX5_fewest 16 = .ok (.bipush (-2), 2) := by decide +kernel
theorem dX5_fewest_18 : decode cX5_fewest 18 = .ok (.invokevirtual 59, 3) := by decide +kernel
theorem dX5_fewest_21 : decode cX5_fewest 21 = .ok (.ireturn, 1) := by decide +kernel
theorem dX5_fewest_22 : decode cX5_fewest 22 = .ok (.iconst 0, 1) := by decide +kernel
theorem dX5_fewest_23 : decode cX5_fewest 23 = .ok (.istore_n 3, 1) := by decide +kernel
theorem dX5_fewest_24 : decode cX5_fewest 24 = .ok (.aload_n 0, 1) := by decide +kernel
theorem dX5_fewest_25 : decode cX5_fewest 25 = .ok (.getfield 51, 3) := by decide +kernel
theorem dX5_fewest_28 : decode cX5_fewest 28 = .ok (.getfield 187, 3) := by decide +kernel
theorem dX5_fewest_31 : decode cX5_fewest 31 = .ok (.iconst 0, 1) := by decide +kernel
theorem dX5_fewest_32 : decode cX5_fewest 32 = .ok (.aaload, 1) := by decide +kernel
theorem dX5_fewest_33 : decode cX5_fewest 33 = .ok (.aload_n 0, 1) := by decide +kernel
theorem dX5_fewest_34 : decode cX5_fewest 34 = .ok (.getfield 10, 3) := by decide +kernel
theorem dX5_fewest_37 : decode cX5_fewest 37 = .ok (.getfield 118, 3) := by decide +kernel
theorem dX5_fewest_40 : decode cX5_fewest 40 = .ok (.invokevirtual 191, 3) := by decide +kernel
theorem dX5_fewest_43 : decode cX5_fewest 43 = .ok (.iload_n 3, 1) := by decide +kernel
theorem dX5_fewest_44 : decode cX5_fewest 44 = .ok (.iload_n 1, 1) := by decide +kernel
theorem dX5_fewest_45 : decode cX5_fewest 45 = .ok (.if_icmp .gt 25, 3) := by decide +kernel
theorem dX5_fewest_48 : decode cX5_fewest 48 = .ok (.aload_n 0, 1) := by decide +kernel
theorem dX5_fewest_49 : decode cX5_fewest 49 = .ok (.getfield 51, 3) := by decide +kernel
theorem dX5_fewest_52 : decode cX5_fewest 52 = .ok (.aload_n 0, 1) := by decide +kernel
theorem dX5_fewest_53 : decode cX5_fewest 53 = .ok (.getfield 10, 3) := by decide +kernel
theorem dX5_fewest_56 : decode cX5_fewest 56 = .ok (.iconst 0, 1) := by decide +kernel
theorem dX5_fewest_57 : decode cX5_fewest 57 = .ok (.iload_n 3, 1) := by decide +kernel
theorem dX5_fewest_58 : decode cX5_fewest 58 = .ok (.invokestatic 194, 3) := by decide +kernel
theorem dX5_fewest_61 : decode cX5_fewest 61 = .ok (.ifCond .ne 9, 3) := by decide +kernel
theorem dX5_fewest_64 : decode cX5_fewest 64 = .ok (.iinc 3 1, 3) := by decide +kernel
theorem dX5_fewest_67 : decode cX5_fewest 67 = .ok (.goto (-24), 3) := by decide +kernel
theorem dX5_fewest_70 : decode cX5_fewest 70 = .ok (.iload_n 3, 1) := by decide +kernel
theorem dX5_fewest_71 : decode cX5_fewest 71 = .ok (.iload_n 1, 1) := by decide +kernel
theorem dX5_fewest_72 : decode cX5_fewest 72 = .ok (.if_icmp .gt 7, 3) := by decide +kernel
theorem dX5_fewest_75 : decode cX5_fewest 75 = .ok (.iconst 1, 1) := by decide +kernel
theorem dX5_fewest_76 : decode cX5_fewest 76 = .ok (.goto 4, 3) := by decide +kernel
theorem dX5_fewest_79 : decode cX5_fewest 79 = .ok (.iconst 0, 1) := by decide +kernel
theorem dX5_fewest_80 : decode cX5_fewest 80 = .ok (.istore 4, 2) := by decide +kernel
theorem dX5_fewest_82 : decode cX5_fewest 82 = .ok (.iload_n 2, 1) := by decide +kernel
theorem dX5_fewest_83 : decode cX5_fewest 83 = .ok (.iconst (-1), 1) := by decide +kernel
theorem dX5_fewest_84 : decode cX5_fewest 84 = .ok (.if_icmp .ne 14, 3) := by decide +kernel
theorem dX5_fewest_87 : decode cX5_fewest 87 = .ok (.iload 4, 2) := by decide +kernel
theorem dX5_fewest_89 : decode cX5_fewest 89 = .ok (.ifCond .eq 7, 3) := by decide +kernel
theorem dX5_fewest_92 : decode cX5_fewest 92 = .ok (.iload_n 3, 1) := by decide +kernel
theorem dX5_fewest_93 : decode cX5_fewest 93 = .ok (.goto 4, 3) := by decide +kernel
theorem dX5_fewest_96 : decode cX5_fewest 96 = .ok (.iconst (-1), 1) := by decide +kernel
theorem dX5_fewest_97 : decode cX5_fewest 97 = .ok (.ireturn, 1) := by decide +kernel
theorem dX5_fewest_98 : decode cX5_fewest 98 = .ok (.iload 4, 2) := by decide +kernel
theorem dX5_fewest_100 : decode cX5_fewest 100 = .ok (.ifCond .eq 8, 3) := by decide +kernel
theorem dX5_fewest_103 : decode cX5_fewest 103 = .ok (.iload_n 2, 1) := by decide +kernel
theorem dX5_fewest_104 : decode cX5_fewest 104 = .ok (.iload_n 3, 1) := by decide +kernel
theorem dX5_fewest_105 : decode cX5_fewest 105 = .ok (.if_icmp .lt 10, 3) := by decide +kernel
theorem dX5_fewest_108 : decode cX5_fewest 108 = .ok (.aload_n 0, 1) := by decide +kernel
theorem dX5_fewest_109 : decode cX5_fewest 109 = .ok (.bipush (-5), 2) := by decide +kernel
theorem dX5_fewest_111 : decode cX5_fewest 111 = .ok (.invokevirtual 59, 3) := by decide +kernel
theorem dX5_fewest_114 : decode cX5_fewest 114 = .ok (.ireturn, 1) := by decide +kernel
theorem dX5_fewest_115 : decode cX5_fewest 115 = .ok (.aload_n 0, 1) := by decide +kernel
theorem dX5_fewest_116 : decode cX5_fewest 116 = .ok (.getfield 51, 3) := by decide +kernel
theorem dX5_fewest_119 : decode cX5_fewest 119 = .ok (.getfield 198, 3) := by decide +kernel
theorem dX5_fewest_122 : decode cX5_fewest 122 = .ok (.iload_n 2, 1) := by decide +kernel
theorem dX5_fewest_123 : decode cX5_fewest 123 = .ok (.iaload, 1) := by decide +kernel
theorem dX5_fewest_124 : decode cX5_fewest 124 = .ok (.ireturn, 1) := by decide +kernel
theorem dX5_most_0 : decode cX5_most 0 = .ok (.iload_n 1, 1) := by decide +kernel
theorem dX5_most_1 : decode cX5_most 1 = .ok (.ifCond .lt 18, 3) := by decide +kernel
theorem dX5_most_4 : decode cX5_most 4 = .ok (.iload_n 1, 1) := by decide +kernel
theorem dX5_most_5 : decode cX5_most 5 = .ok (.iconst 5, 1) := by decide +kernel
theorem dX5_most_6 : decode cX5_most 6 = .ok (.if_icmp .gt 13, 3) := by decide +kernel
theorem dX5_most_9 : decode cX5_most 9 = .ok (.iload_n 2, 1) := by decide +kernel
theorem dX5_most_10 : decode cX5_most 10 = .ok (.iconst (-1), 1) := by decide +kernel
theorem dX5_most_11 : decode cX5_most 11 = .ok (.if_icmp .lt 8, 3) := by decide +kernel
theorem dX5_most_14 : decode cX5_most 14 = .ok (.iload_n 2, 1) := by decide +kernel
theorem dX5_most_15 : decode cX5_most 15 = .ok (.iload_n 1, 1) := by decide +kernel
theorem dX5_most_16 : decode cX5_most 16 = .ok (.if_icmp .lt 10, 3) := by decide +kernel
theorem dX5_most_19 : decode cX5_most 19 = .ok (.aload_n 0, 1) := by decide +kernel
theorem dX5_most_20 : decode cX5_most 20 = .ok (.bipush (-2), 2) := by decide +kernel
theorem dX5_most_22 : decode cX5_most 22 = .ok (.invokevirtual 59, 3) := by decide +kernel
theorem dX5_most_25 : decode cX5_most 25 = .ok (.ireturn, 1) := by decide +kernel
theorem dX5_most_26 : decode cX5_most 26 = .ok (.aload_n 0, 1) := by decide +kernel
theorem dX5_most_27 : decode cX5_most 27 = .ok (.getfield 51, 3) := by decide +kernel
theorem dX5_most_30 : decode cX5_most 30 = .ok (.iconst (-1), 1) := by decide +kernel
theorem dX5_most_31 : decode cX5_most 31 = .ok (.putfield 201, 3) := by decide +kernel
theorem dX5_most_34 : decode cX5_most 34 = .ok (.aload_n 0, 1) := by decide +kernel
theorem dX5_most_35 : decode cX5_most 35 = .ok (.getfield 51, 3) := by decide +kernel
theorem dX5_most_38 : decode cX5_most 38 = .ok (.getfield 187, 3) := by decide +kernel
theorem dX5_most_41 : decode cX5_most 41 = .ok (.iconst 0, 1) := by decide +kernel
theorem dX5_most_42 : decode cX5_most 42 = .ok (.aaload, 1) := by decide +kernel
theorem dX5_most_43 : decode cX5_most 43 = .ok (.aload_n 0, 1) := by decide +kernel
theorem dX5_most_44 : decode cX5_most 44 = .ok (.getfield 10, 3) := by decide +kernel
theorem dX5_most_47 : decode cX5_most 47 = .ok (.getfield 118, 3) := by decide +kernel
theorem dX5_most_50 : decode cX5_most 50 = .ok (.invokevirtual 191, 3) := by decide +kernel
theorem dX5_most_53 : decode cX5_most 53 = .ok (.aload_n 0, 1) := by decide +kernel
theorem dX5_most_54 : decode cX5_most 54 = .ok (.getfield 51, 3) := by decide +kernel
theorem dX5_most_57 : decode cX5_most 57 = .ok (.aload_n 0, 1) := by decide +kernel
theorem dX5_most_58 : decode cX5_most 58 = .ok (.getfield 10, 3) := by decide +kernel
theorem dX5_most_61 : decode cX5_most 61 = .ok (.iconst 0, 1) := by decide +kernel
theorem dX5_most_62 : decode cX5_most 62 = .ok (.iload_n 1, 1) := by decide +kernel
theorem dX5_most_63 : decode cX5_most 63 = .ok (.invokestatic 204, 3) := by decide +kernel
theorem dX5_most_66 : decode cX5_most 66 = .ok (.iload_n 2, 1) := by decide +kernel
theorem dX5_most_67 : decode cX5_most 67 = .ok (.iconst (-1), 1) := by decide +kernel
theorem dX5_most_68 : decode cX5_most 68 = .ok (.if_icmp .ne 13, 3) := by decide +kernel
theorem dX5_most_71 : decode cX5_most 71 = .ok (.aload_n 0, 1) := by decide +kernel
theorem dX5_most_72 : decode cX5_most 72 = .ok (.getfield 51, 3) := by decide +kernel
theorem dX5_most_75 : decode cX5_most 75 = .ok (.getfield 201, 3) := by decide +kernel
theorem dX5_most_78 : decode cX5_most 78 = .ok (.goto 12, 3) := by decide +kernel
theorem dX5_most_81 : decode cX5_most 81 = .ok (.aload_n 0, 1) := by decide +kernel
theorem dX5_most_82 : decode cX5_most 82 = .ok (.getfield 51, 3) := by decide +kernel
theorem dX5_most_85 : decode cX5_most 85 = .ok (.getfield 208, 3) := by decide +kernel
theorem dX5_most_88 : decode cX5_most 88 = .ok (.iload_n 2, 1) := by decide +kernel
theorem dX5_most_89 : decode cX5_most 89 = .ok (.iaload, 1) := by decide +kernel
theorem dX5_most_90 : decode cX5_most 90 = .ok (.ireturn, 1) := by decide +kernel
theorem dX5_stand_0 : decode cX5_stand 0 = .ok (.iconst (-1), 1) := by decide +kernel
theorem dX5_stand_1 : decode cX5_stand 1 = .ok (.istore_n 1, 1) := by decide +kernel
theorem dX5_stand_2 : decode cX5_stand 2 = .ok (.iconst 0, 1) := by decide +kernel
theorem dX5_stand_3 : decode cX5_stand 3 = .ok (.istore_n 2, 1) := by decide +kernel
theorem dX5_stand_4 : decode cX5_stand 4 = .ok (.iconst 0, 1) := by decide +kernel
theorem dX5_stand_5 : decode cX5_stand 5 = .ok (.istore_n 3, 1) := by decide +kernel
theorem dX5_stand_6 : decode cX5_stand 6 = .ok (.iload_n 3, 1) := by decide +kernel
theorem dX5_stand_7 : decode cX5_stand 7 = .ok (.bipush 67, 2) := by decide +kernel
theorem dX5_stand_9 : decode cX5_stand 9 = .ok (.if_icmp .ge 83, 3) := by decide +kernel
theorem dX5_stand_12 : decode cX5_stand 12 = .ok (.aload_n 0, 1) := by decide +kernel
theorem dX5_stand_13 : decode cX5_stand 13 = .ok (.getfield 10, 3) := by decide +kernel
theorem dX5_stand_16 : decode cX5_stand 16 = .ok (.iload_n 3, 1) := by decide +kernel
theorem dX5_stand_17 : decode cX5_stand 17 = .ok (.invokevirtual 147, 3) := by decide +kernel
theorem dX5_stand_20 : decode cX5_stand 20 = .ok (.ifCond .eq 66, 3) := by decide +kernel
theorem dX5_stand_23 : decode cX5_stand 23 = .ok (.aload_n 0, 1) := by decide +kernel
theorem dX5_stand_24 : decode cX5_stand 24 = .ok (.getfield 44, 3) := by decide +kernel
theorem dX5_stand_27 : decode cX5_stand 27 = .ok (.aload_n 0, 1) := by decide +kernel
theorem dX5_stand_28 : decode cX5_stand 28 = .ok (.getfield 10, 3) := by decide +kernel
theorem dX5_stand_31 : decode cX5_stand 31 = .ok (.getfield 118, 3) := by decide +kernel
theorem dX5_stand_34 : decode cX5_stand 34 = .ok (.invokevirtual 191, 3) := by decide +kernel
theorem dX5_stand_37 : decode cX5_stand 37 = .ok (.aload_n 0, 1) := by decide +kernel
theorem dX5_stand_38 : decode cX5_stand 38 = .ok (.getfield 44, 3) := by decide +kernel
theorem dX5_stand_41 : decode cX5_stand 41 = .ok (.iload_n 3, 1) := by decide +kernel
theorem dX5_stand_42 : decode cX5_stand 42 = .ok (.putfield 150, 3) := by decide +kernel
theorem dX5_stand_45 : decode cX5_stand 45 = .ok (.aload_n 0, 1) := by decide +kernel
theorem dX5_stand_46 : decode cX5_stand 46 = .ok (.getfield 10, 3) := by decide +kernel
theorem dX5_stand_49 : decode cX5_stand 49 = .ok (.aload_n 0, 1) := by decide +kernel
theorem dX5_stand_50 : decode cX5_stand 50 = .ok (.getfield 44, 3) := by decide +kernel
theorem dX5_stand_53 : decode cX5_stand 53 = .ok (.iconst 0, 1) := by decide +kernel
theorem dX5_stand_54 : decode cX5_stand 54 = .ok (.invokevirtual 211, 3) := by decide +kernel
theorem dX5_stand_57 : decode cX5_stand 57 = .ok (.aload_n 0, 1) := by decide +kernel
theorem dX5_stand_58 : decode cX5_stand 58 = .ok (.getfield 10, 3) := by decide +kernel
theorem dX5_stand_61 : decode cX5_stand 61 = .ok (.aload_n 0, 1) := by decide +kernel
theorem dX5_stand_62 : decode cX5_stand 62 = .ok (.getfield 44, 3) := by decide +kernel
theorem dX5_stand_65 : decode cX5_stand 65 = .ok (.invokevirtual 215, 3) := by decide +kernel
theorem dX5_stand_68 : decode cX5_stand 68 = .ok (.istore 4, 2) := by decide +kernel
theorem dX5_stand_70 : decode cX5_stand 70 = .ok (.iload_n 1, 1) := by decide +kernel
theorem dX5_stand_71 : decode cX5_stand 71 = .ok (.iconst (-1), 1) := by decide +kernel
theorem dX5_stand_72 : decode cX5_stand 72 = .ok (.if_icmp .eq 9, 3) := by decide +kernel
theorem dX5_stand_75 : decode cX5_stand 75 = .ok (.iload 4, 2) := by decide +kernel
theorem dX5_stand_77 : decode cX5_stand 77 = .ok (.iload_n 2, 1) := by decide +kernel
theorem dX5_stand_78 : decode cX5_stand 78 = .ok (.if_icmp .ge 8, 3) := by decide +kernel
theorem dX5_stand_81 : decode cX5_stand 81 = .ok (.iload_n 3, 1) := by decide +kernel
theorem dX5_stand_82 : decode cX5_stand 82 = .ok (.istore_n 1, 1) := by decide +kernel
theorem dX5_stand_83 : decode cX5_stand 83 = .ok (.iload 4, 2) := by decide +kernel
theorem dX5_stand_85 : decode cX5_stand 85 = .ok (.istore_n 2, 1) := by decide +kernel
theorem dX5_stand_86 : decode cX5_stand 86 = .ok (.iinc 3 1, 3) := by decide +kernel
theorem dX5_stand_89 : decode cX5_stand 89 = .ok (.goto (-83), 3) := by decide +kernel
theorem dX5_stand_92 : decode cX5_stand 92 = .ok (.iload_n 1, 1) := by decide +kernel
theorem dX5_stand_93 : decode cX5_stand 93 = .ok (.ireturn, 1) := by decide +kernel
theorem dX5_shy_0 : decode cX5_shy 0 = .ok (.aload_n 0, 1) := by decide +kernel
theorem dX5_shy_1 : decode cX5_shy 1 = .ok (.getfield 10, 3) := by decide +kernel
theorem dX5_shy_4 : decode cX5_shy 4 = .ok (.iload_n 1, 1) := by decide +kernel
theorem dX5_shy_5 : decode cX5_shy 5 = .ok (.invokevirtual 103, 3) := by decide +kernel
theorem dX5_shy_8 : decode cX5_shy 8 = .ok (.ifCond .ne 10, 3) := by decide +kernel
theorem dX5_shy_11 : decode cX5_shy 11 = .ok (.aload_n 0, 1) := by decide +kernel
theorem dX5_shy_12 : decode cX5_shy 12 = .ok (.bipush (-2), 2) := by decide +kernel
theorem dX5_shy_14 : decode cX5_shy 14 = .ok (.invokevirtual 59, 3) := by decide +kernel
theorem dX5_shy_17 : decode cX5_shy 17 = .ok (.ireturn, 1) := by decide +kernel
theorem dX5_shy_18 : decode cX5_shy 18 = .ok (.iconst (-1), 1) := by decide +kernel
theorem dX5_shy_19 : decode cX5_shy 19 = .ok (.istore_n 2, 1) := by decide +kernel
theorem dX5_shy_20 : decode cX5_shy 20 = .ok (.aload_n 0, 1) := by decide +kernel
theorem dX5_shy_21 : decode cX5_shy 21 = .ok (.getfield 44, 3) := by decide +kernel
theorem dX5_shy_24 : decode cX5_shy 24 = .ok (.aload_n 0, 1) := by decide +kernel
theorem dX5_shy_25 : decode cX5_shy 25 = .ok (.getfield 10, 3) := by decide +kernel
theorem dX5_shy_28 : decode cX5_shy 28 = .ok (.getfield 118, 3) := by decide +kernel
theorem dX5_shy_31 : decode cX5_shy 31 = .ok (.invokevirtual 191, 3) := by decide +kernel
theorem dX5_shy_34 : decode cX5_shy 34 = .ok (.iconst 0, 1) := by decide +kernel
theorem dX5_shy_35 : decode cX5_shy 35 = .ok (.istore_n 3, 1) := by decide +kernel
theorem dX5_shy_36 : decode cX5_shy 36 = .ok (.iload_n 3, 1) := by decide +kernel
theorem dX5_shy_37 : decode cX5_shy 37 = .ok (.bipush 67, 2) := by decide +kernel
theorem dX5_shy_39 : decode cX5_shy 39 = .ok (.if_icmp .ge 64, 3) := by decide +kernel
theorem dX5_shy_42 : decode cX5_shy 42 = .ok (.aload_n 0, 1) := by decide +kernel
theorem dX5_shy_43 : decode cX5_shy 43 = .ok (.getfield 10, 3) := by decide +kernel
theorem dX5_shy_46 : decode cX5_shy 46 = .ok (.iload_n 3, 1) := by decide +kernel
theorem dX5_shy_47 : decode cX5_shy 47 = .ok (.invokevirtual 147, 3) := by decide +kernel
theorem dX5_shy_50 : decode cX5_shy 50 = .ok (.ifCond .eq 47, 3) := by decide +kernel
theorem dX5_shy_53 : decode cX5_shy 53 = .ok (.aload_n 0, 1) := by decide +kernel
theorem dX5_shy_54 : decode cX5_shy 54 = .ok (.getfield 44, 3) := by decide +kernel
theorem dX5_shy_57 : decode cX5_shy 57 = .ok (.iload_n 3, 1) := by decide +kernel
theorem dX5_shy_58 : decode cX5_shy 58 = .ok (.putfield 150, 3) := by decide +kernel
theorem dX5_shy_61 : decode cX5_shy 61 = .ok (.aload_n 0, 1) := by decide +kernel
theorem dX5_shy_62 : decode cX5_shy 62 = .ok (.getfield 10, 3) := by decide +kernel
theorem dX5_shy_65 : decode cX5_shy 65 = .ok (.aload_n 0, 1) := by decide +kernel
theorem dX5_shy_66 : decode cX5_shy 66 = .ok (.getfield 44, 3) := by decide +kernel
theorem dX5_shy_69 : decode cX5_shy 69 = .ok (.iload_n 1, 1) := by decide +kernel
theorem dX5_shy_70 : decode cX5_shy 70 = .ok (.invokevirtual 219, 3) := by decide +kernel
theorem dX5_shy_73 : decode cX5_shy 73 = .ok (.ifCond .eq 24, 3) := by decide +kernel
theorem dX5_shy_76 : decode cX5_shy 76 = .ok (.iload_n 2, 1) := by decide +kernel
theorem dX5_shy_77 : decode cX5_shy 77 = .ok (.iload_n 3, 1) := by decide +kernel
theorem dX5_shy_78 : decode cX5_shy 78 = .ok (.aload_n 0, 1) := by decide +kernel
theorem dX5_shy_79 : decode cX5_shy 79 = .ok (.getfield 10, 3) := by decide +kernel
theorem dX5_shy_82 : decode cX5_shy 82 = .ok (.getfield 118, 3) := by decide +kernel
theorem dX5_shy_85 : decode cX5_shy 85 = .ok (.getfield 162, 3) := by decide +kernel
theorem dX5_shy_88 : decode cX5_shy 88 = .ok (.iload_n 1, 1) := by decide +kernel
theorem dX5_shy_89 : decode cX5_shy 89 = .ok (.iaload, 1) := by decide +kernel
theorem dX5_shy_90 : decode cX5_shy 90 = .ok (.invokestatic 183, 3) := by decide +kernel
theorem dX5_shy_93 : decode cX5_shy 93 = .ok (.invokestatic 223, 3) := by decide +kernel
theorem dX5_shy_96 : decode cX5_shy 96 = .ok (.istore_n 2, 1) := by decide +kernel
theorem dX5_shy_97 : decode cX5_shy 97 = .ok (.iinc 3 1, 3) := by decide +kernel
theorem dX5_shy_100 : decode cX5_shy 100 = .ok (.goto (-64), 3) := by decide +kernel
theorem dX5_shy_103 : decode cX5_shy 103 = .ok (.iload_n 2, 1) := by decide +kernel
theorem dX5_shy_104 : decode cX5_shy 104 = .ok (.ireturn, 1) := by decide +kernel
theorem dX5_late_0 : decode cX5_late 0 = .ok (.iload_n 3, 1) := by decide +kernel
theorem dX5_late_1 : decode cX5_late 1 = .ok (.ifCond .lt 8, 3) := by decide +kernel
theorem dX5_late_4 : decode cX5_late 4 = .ok (.iload_n 3, 1) := by decide +kernel
theorem dX5_late_5 : decode cX5_late 5 = .ok (.iconst 3, 1) := by decide +kernel
theorem dX5_late_6 : decode cX5_late 6 = .ok (.if_icmp .le 10, 3) := by decide +kernel
theorem dX5_late_9 : decode cX5_late 9 = .ok (.aload_n 0, 1) := by decide +kernel
theorem dX5_late_10 : decode cX5_late 10 = .ok (.bipush (-2), 2) := by decide +kernel
theorem dX5_late_12 : decode cX5_late 12 = .ok (.invokevirtual 59, 3) := by decide +kernel
theorem dX5_late_15 : decode cX5_late 15 = .ok (.ireturn, 1) := by decide +kernel
theorem dX5_late_16 : decode cX5_late 16 = .ok (.aload_n 0, 1) := by decide +kernel
theorem dX5_late_17 : decode cX5_late 17 = .ok (.iload_n 1, 1) := by decide +kernel
theorem dX5_late_18 : decode cX5_late 18 = .ok (.iload_n 2, 1) := by decide +kernel
theorem dX5_late_19 : decode cX5_late 19 = .ok (.bipush 40, 2) := by decide +kernel
theorem dX5_late_21 : decode cX5_late 21 = .ok (.invokevirtual 228, 3) := by decide +kernel
theorem dX5_late_24 : decode cX5_late 24 = .ok (.istore 4, 2) := by decide +kernel
theorem dX5_late_26 : decode cX5_late 26 = .ok (.iload 4, 2) := by decide +kernel
theorem dX5_late_28 : decode cX5_late 28 = .ok (.ifCond .eq 10, 3) := by decide +kernel
theorem dX5_late_31 : decode cX5_late 31 = .ok (.aload_n 0, 1) := by decide +kernel
theorem dX5_late_32 : decode cX5_late 32 = .ok (.iload 4, 2) := by decide +kernel
theorem dX5_late_34 : decode cX5_late 34 = .ok (.invokevirtual 59, 3) := by decide +kernel
theorem dX5_late_37 : decode cX5_late 37 = .ok (.ireturn, 1) := by decide +kernel
theorem dX5_late_38 : decode cX5_late 38 = .ok (.aload_n 0, 1) := by decide +kernel
theorem dX5_late_39 : decode cX5_late 39 = .ok (.getfield 44, 3) := by decide +kernel
theorem dX5_late_42 : decode cX5_late 42 = .ok (.aload_n 0, 1) := by decide +kernel
theorem dX5_late_43 : decode cX5_late 43 = .ok (.getfield 10, 3) := by decide +kernel
theorem dX5_late_46 : decode cX5_late 46 = .ok (.getfield 118, 3) := by decide +kernel
theorem dX5_late_49 : decode cX5_late 49 = .ok (.invokevirtual 191, 3) := by decide +kernel
theorem dX5_late_52 : decode cX5_late 52 = .ok (.iconst 0, 1) := by decide +kernel
theorem dX5_late_53 : decode cX5_late 53 = .ok (.istore 5, 2) := by decide +kernel
theorem dX5_late_55 : decode cX5_late 55 = .ok (.iload 5, 2) := by decide +kernel
theorem dX5_late_57 : decode cX5_late 57 = .ok (.iload_n 3, 1) := by decide +kernel
theorem dX5_late_58 : decode cX5_late 58 = .ok (.if_icmp .ge 21, 3) := by decide +kernel
theorem dX5_late_61 : decode cX5_late 61 = .ok (.aload_n 0, 1) := by decide +kernel
theorem dX5_late_62 : decode cX5_late 62 = .ok (.getfield 10, 3) := by decide +kernel
theorem dX5_late_65 : decode cX5_late 65 = .ok (.aload_n 0, 1) := by decide +kernel
theorem dX5_late_66 : decode cX5_late 66 = .ok (.getfield 44, 3) := by decide +kernel
theorem dX5_late_69 : decode cX5_late 69 = .ok (.iconst 0, 1) := by decide +kernel
theorem dX5_late_70 : decode cX5_late 70 = .ok (.invokevirtual 211, 3) := by decide +kernel
theorem dX5_late_73 : decode cX5_late 73 = .ok (.iinc 5 1, 3) := by decide +kernel
theorem dX5_late_76 : decode cX5_late 76 = .ok (.goto (-21), 3) := by decide +kernel
theorem dX5_late_79 : decode cX5_late 79 = .ok (.aload_n 0, 1) := by decide +kernel
theorem dX5_late_80 : decode cX5_late 80 = .ok (.aload_n 0, 1) := by decide +kernel
theorem dX5_late_81 : decode cX5_late 81 = .ok (.getfield 44, 3) := by decide +kernel
theorem dX5_late_84 : decode cX5_late 84 = .ok (.aload_n 0, 1) := by decide +kernel
theorem dX5_late_85 : decode cX5_late 85 = .ok (.getfield 32, 3) := by decide +kernel
theorem dX5_late_88 : decode cX5_late 88 = .ok (.iload_n 1, 1) := by decide +kernel
theorem dX5_late_89 : decode cX5_late 89 = .ok (.aaload, 1) := by decide +kernel
theorem dX5_late_90 : decode cX5_late 90 = .ok (.iload_n 2, 1) := by decide +kernel
theorem dX5_late_91 : decode cX5_late 91 = .ok (.invokevirtual 231, 3) := by decide +kernel
theorem dX5_late_94 : decode cX5_late 94 = .ok (.aload_n 0, 1) := by decide +kernel
theorem dX5_late_95 : decode cX5_late 95 = .ok (.getfield 10, 3) := by decide +kernel
theorem dX5_late_98 : decode cX5_late 98 = .ok (.aload_n 0, 1) := by decide +kernel
theorem dX5_late_99 : decode cX5_late 99 = .ok (.getfield 44, 3) := by decide +kernel
theorem dX5_late_102 : decode cX5_late 102 = .ok (.invokevirtual 235, 3) := by decide +kernel
theorem dX5_late_105 : decode cX5_late 105 = .ok (.ireturn, 1) := by decide +kernel
theorem dX5_bare_0 : decode cX5_bare 0 = .ok (.aload_n 0, 1) := by decide +kernel
theorem dX5_bare_1 : decode cX5_bare 1 = .ok (.getfield 10, 3) := by decide +kernel
theorem dX5_bare_4 : decode cX5_bare 4 = .ok (.getfield 238, 3) := by decide +kernel
theorem dX5_bare_7 : decode cX5_bare 7 = .ok (.aload_n 0, 1) := by decide +kernel
theorem dX5_bare_8 : decode cX5_bare 8 = .ok (.getfield 10, 3) := by decide +kernel
theorem dX5_bare_11 : decode cX5_bare 11 = .ok (.invokevirtual 242, 3) := by decide +kernel
theorem dX5_bare_14 : decode cX5_bare 14 = .ok (.lor, 1) := by decide +kernel
theorem dX5_bare_15 : decode cX5_bare 15 = .ok (.lstore_n 1, 1) := by decide +kernel
theorem dX5_bare_16 : decode cX5_bare 16 = .ok (.iconst 0, 1) := by decide +kernel
theorem dX5_bare_17 : decode cX5_bare 17 = .ok (.istore_n 3, 1) := by decide +kernel
theorem dX5_bare_18 : decode cX5_bare 18 = .ok (.iconst 0, 1) := by decide +kernel
theorem dX5_bare_19 : decode cX5_bare 19 = .ok (.istore 4, 2) := by decide +kernel
theorem dX5_bare_21 : decode cX5_bare 21 = .ok (.iload 4, 2) := by decide +kernel
theorem dX5_bare_23 : decode cX5_bare 23 = .ok (.aload_n 0, 1) := by decide +kernel
theorem dX5_bare_24 : decode cX5_bare 24 = .ok (.getfield 10, 3) := by decide +kernel
theorem dX5_bare_27 : decode cX5_bare 27 = .ok (.getfield 125, 3) := by decide +kernel
theorem dX5_bare_30 : decode cX5_bare 30 = .ok (.if_icmp .ge 50, 3) := by decide +kernel
theorem dX5_bare_33 : decode cX5_bare 33 = .ok (.lload_n 1, 1) := by decide +kernel
theorem dX5_bare_34 : decode cX5_bare 34 = .ok (.iload 4, 2) := by decide +kernel
theorem dX5_bare_36 : decode cX5_bare 36 = .ok (.invokestatic 246, 3) := by decide +kernel
theorem dX5_bare_39 : decode cX5_bare 39 = .ok (.land, 1) := by decide +kernel
theorem dX5_bare_40 : decode cX5_bare 40 = .ok (.lconst 0, 1) := by decide +kernel
theorem dX5_bare_41 : decode cX5_bare 41 = .ok (.lcmp, 1) := by decide +kernel
theorem dX5_bare_42 : decode cX5_bare 42 = .ok (.ifCond .ne 10, 3) := by decide +kernel
theorem dX5_bare_45 : decode cX5_bare 45 = .ok (.iload_n 3, 1) := by decide +kernel
theorem dX5_bare_46 : decode cX5_bare 46 = .ok (.iconst 1, 1) := by decide +kernel
theorem dX5_bare_47 : decode cX5_bare 47 = .ok (.iload 4, 2) := by decide +kernel
theorem dX5_bare_49 : decode cX5_bare 49 = .ok (.ishl, 1) := by decide +kernel
theorem dX5_bare_50 : decode cX5_bare 50 = .ok (.ior, 1) := by decide +kernel
theorem dX5_bare_51 : decode cX5_bare 51 = .ok (.istore_n 3, 1) := by decide +kernel
theorem dX5_bare_52 : decode cX5_bare 52 = .ok (.lload_n 1, 1) := by decide +kernel
theorem dX5_bare_53 : decode cX5_bare 53 = .ok (.iload 4, 2) := by decide +kernel
theorem dX5_bare_55 : decode cX5_bare 55 = .ok (.invokestatic 250, 3) := by decide +kernel
theorem dX5_bare_58 : decode cX5_bare 58 = .ok (.land, 1) := by decide +kernel
theorem dX5_bare_59 : decode cX5_bare 59 = .ok (.lconst 0, 1) := by decide +kernel
theorem dX5_bare_60 : decode cX5_bare 60 = .ok (.lcmp, 1) := by decide +kernel
theorem dX5_bare_61 : decode cX5_bare 61 = .ok (.ifCond .ne 13, 3) := by decide +kernel
theorem dX5_bare_64 : decode cX5_bare 64 = .ok (.iload_n 3, 1) := by decide +kernel
theorem dX5_bare_65 : decode cX5_bare 65 = .ok (.iconst 1, 1) := by decide +kernel
theorem dX5_bare_66 : decode cX5_bare 66 = .ok (.bipush 7, 2) := by decide +kernel
theorem dX5_bare_68 : decode cX5_bare 68 = .ok (.iload 4, 2) := by decide +kernel
theorem dX5_bare_70 : decode cX5_bare 70 = .ok (.iadd, 1) := by decide +kernel
theorem dX5_bare_71 : decode cX5_bare 71 = .ok (.ishl, 1) := by decide +kernel
theorem dX5_bare_72 : decode cX5_bare 72 = .ok (.ior, 1) := by decide +kernel
theorem dX5_bare_73 : decode cX5_bare 73 = .ok (.istore_n 3, 1) := by decide +kernel
theorem dX5_bare_74 : decode cX5_bare 74 = .ok (.iinc 4 1, 3) := by decide +kernel
theorem dX5_bare_77 : decode cX5_bare 77 = .ok (.goto (-56), 3) := by decide +kernel
theorem dX5_bare_80 : decode cX5_bare 80 = .ok (.iload_n 3, 1) := by decide +kernel
theorem dX5_bare_81 : decode cX5_bare 81 = .ok (.ireturn, 1) := by decide +kernel
theorem dX5_odds_0 : decode cX5_odds 0 = .ok (.aload_n 0, 1) := by decide +kernel
theorem dX5_odds_1 : decode cX5_odds 1 = .ok (.iload_n 1, 1) := by decide +kernel
theorem dX5_odds_2 : decode cX5_odds 2 = .ok (.iload_n 2, 1) := by decide +kernel
theorem dX5_odds_3 : decode cX5_odds 3 = .ok (.bipush 6, 2) := by decide +kernel
theorem dX5_odds_5 : decode cX5_odds 5 = .ok (.invokevirtual 228, 3) := by decide +kernel
theorem dX5_odds_8 : decode cX5_odds 8 = .ok (.istore_n 3, 1) := by decide +kernel
theorem dX5_odds_9 : decode cX5_odds 9 = .ok (.iload_n 3, 1) := by decide +kernel
theorem dX5_odds_10 : decode cX5_odds 10 = .ok (.ifCond .eq 9, 3) := by decide +kernel
theorem dX5_odds_13 : decode cX5_odds 13 = .ok (.aload_n 0, 1) := by decide +kernel
theorem dX5_odds_14 : decode cX5_odds 14 = .ok (.iload_n 3, 1) := by decide +kernel
theorem dX5_odds_15 : decode cX5_odds 15 = .ok (.invokevirtual 59, 3) := by decide +kernel
theorem dX5_odds_18 : decode cX5_odds 18 = .ok (.ireturn, 1) := by decide +kernel
theorem dX5_odds_19 : decode cX5_odds 19 = .ok (.lconst 1, 1) := by decide +kernel
theorem dX5_odds_20 : decode cX5_odds 20 = .ok (.lstore 4, 2) := by decide +kernel
theorem dX5_odds_22 : decode cX5_odds 22 = .ok (.iconst 0, 1) := by decide +kernel
theorem dX5_odds_23 : decode cX5_odds 23 = .ok (.istore 6, 2) := by decide +kernel
theorem dX5_odds_25 : decode cX5_odds 25 = .ok (.iload 6, 2) := by decide +kernel
theorem dX5_odds_27 : decode cX5_odds 27 = .ok (.iload_n 2, 1) := by decide +kernel
theorem dX5_odds_28 : decode cX5_odds 28 = .ok (.if_icmp .ge 17, 3) := by decide +kernel
theorem dX5_odds_31 : decode cX5_odds 31 = .ok (.lload 4, 2) := by decide +kernel
theorem dX5_odds_33 : decode cX5_odds 33 = .ok (.ldc2_w 253, 3) := by decide +kernel
theorem dX5_odds_36 : decode cX5_odds 36 = .ok (.lmul, 1) := by decide +kernel
theorem dX5_odds_37 : decode cX5_odds 37 = .ok (.lstore 4, 2) := by decide +kernel
theorem dX5_odds_39 : decode cX5_odds 39 = .ok (.iinc 6 1, 3) := by decide +kernel
theorem dX5_odds_42 : decode cX5_odds 42 = .ok (.goto (-17), 3) := by decide +kernel
theorem dX5_odds_45 : decode cX5_odds 45 = .ok (.lconst 0, 1) := by decide +kernel
theorem dX5_odds_46 : decode cX5_odds 46 = .ok (.lstore 6, 2) := by decide +kernel
theorem dX5_odds_48 : decode cX5_odds 48 = .ok (.iconst 0, 1) := by decide +kernel
theorem dX5_odds_49 : decode cX5_odds 49 = .ok (.istore 8, 2) := by decide +kernel
theorem dX5_odds_51 : decode cX5_odds 51 = .ok (.iload 8, 2) := by decide +kernel
theorem dX5_odds_53 : decode cX5_odds 53 = .ok (.iconst 1, 1) := by decide +kernel
theorem dX5_odds_54 : decode cX5_odds 54 = .ok (.iload_n 2, 1) := by decide +kernel
theorem dX5_odds_55 : decode cX5_odds 55 = .ok (.ishl, 1) := by decide +kernel
theorem dX5_odds_56 : decode cX5_odds 56 = .ok (.if_icmp .ge 27, 3) := by decide +kernel
theorem dX5_odds_59 : decode cX5_odds 59 = .ok (.lload 6, 2) := by decide +kernel
theorem dX5_odds_61 : decode cX5_odds 61 = .ok (.aload_n 0, 1) := by decide +kernel
theorem dX5_odds_62 : decode cX5_odds 62 = .ok (.aload_n 0, 1) := by decide +kernel
theorem dX5_odds_63 : decode cX5_odds 63 = .ok (.getfield 32, 3) := by decide +kernel
theorem dX5_odds_66 : decode cX5_odds 66 = .ok (.iload_n 1, 1) := by decide +kernel
theorem dX5_odds_67 : decode cX5_odds 67 = .ok (.aaload, 1) := by decide +kernel
theorem dX5_odds_68 : decode cX5_odds 68 = .ok (.iload_n 2, 1) := by decide +kernel
theorem dX5_odds_69 : decode cX5_odds 69 = .ok (.iload 8, 2) := by decide +kernel
theorem dX5_odds_71 : decode cX5_odds 71 = .ok (.invokevirtual 255, 3) := by decide +kernel
theorem dX5_odds_74 : decode cX5_odds 74 = .ok (.ladd, 1) := by decide +kernel
theorem dX5_odds_75 : decode cX5_odds 75 = .ok (.lstore 6, 2) := by decide +kernel
theorem dX5_odds_77 : decode cX5_odds 77 = .ok (.iinc 8 1, 3) := by decide +kernel
theorem dX5_odds_80 : decode cX5_odds 80 = .ok (.goto (-29), 3) := by decide +kernel
theorem dX5_odds_83 : decode cX5_odds 83 = .ok (.lload 4, 2) := by decide +kernel
theorem dX5_odds_85 : decode cX5_odds 85 = .ok (.lconst 1, 1) := by decide +kernel
theorem dX5_odds_86 : decode cX5_odds 86 = .ok (.lcmp, 1) := by decide +kernel
theorem dX5_odds_87 : decode cX5_odds 87 = .ok (.ifCond .ge 7, 3) := by decide +kernel
theorem dX5_odds_90 : decode cX5_odds 90 = .ok (.iconst 0, 1) := by decide +kernel
theorem dX5_odds_91 : decode cX5_odds 91 = .ok (.goto 13, 3) := by decide +kernel
theorem dX5_odds_94 : decode cX5_odds 94 = .ok (.lload 6, 2) := by decide +kernel
theorem dX5_odds_96 : decode cX5_odds 96 = .ok (.ldc2_w 259, 3) := by decide +kernel
theorem dX5_odds_99 : decode cX5_odds 99 = .ok (.lmul, 1) := by decide +kernel
theorem dX5_odds_100 : decode cX5_odds 100 = .ok (.lload 4, 2) := by decide +kernel
theorem dX5_odds_102 : decode cX5_odds 102 = .ok (.ldiv, 1) := by decide +kernel
theorem dX5_odds_103 : decode cX5_odds 103 = .ok (.l2i, 1) := by decide +kernel
theorem dX5_odds_104 : decode cX5_odds 104 = .ok (.ireturn, 1) := by decide +kernel
theorem dX5_ewes_0 : decode cX5_ewes 0 = .ok (.iload_n 1, 1) := by decide +kernel
theorem dX5_ewes_1 : decode cX5_ewes 1 = .ok (.tableswitch 77 0 3 #[31, 46, 54, 62], 31) := by decide +kernel
theorem dX5_ewes_32 : decode cX5_ewes 32 = .ok (.aload_n 0, 1) := by decide +kernel
theorem dX5_ewes_33 : decode cX5_ewes 33 = .ok (.getfield 10, 3) := by decide +kernel
theorem dX5_ewes_36 : decode cX5_ewes 36 = .ok (.aload_n 0, 1) := by decide +kernel
theorem dX5_ewes_37 : decode cX5_ewes 37 = .ok (.getfield 10, 3) := by decide +kernel
theorem dX5_ewes_40 : decode cX5_ewes 40 = .ok (.getfield 118, 3) := by decide +kernel
theorem dX5_ewes_43 : decode cX5_ewes 43 = .ok (.invokevirtual 261, 3) := by decide +kernel
theorem dX5_ewes_46 : decode cX5_ewes 46 = .ok (.ireturn, 1) := by decide +kernel
theorem dX5_ewes_47 : decode cX5_ewes 47 = .ok (.aload_n 0, 1) := by decide +kernel
theorem dX5_ewes_48 : decode cX5_ewes 48 = .ok (.getfield 10, 3) := by decide +kernel
theorem dX5_ewes_51 : decode cX5_ewes 51 = .ok (.invokevirtual 264, 3) := by decide +kernel
theorem dX5_ewes_54 : decode cX5_ewes 54 = .ok (.ireturn, 1) := by decide +kernel
theorem dX5_ewes_55 : decode cX5_ewes 55 = .ok (.aload_n 0, 1) := by decide +kernel
theorem dX5_ewes_56 : decode cX5_ewes 56 = .ok (.getfield 10, 3) := by decide +kernel
theorem dX5_ewes_59 : decode cX5_ewes 59 = .ok (.invokevirtual 268, 3) := by decide +kernel
theorem dX5_ewes_62 : decode cX5_ewes 62 = .ok (.ireturn, 1) := by decide +kernel
theorem dX5_ewes_63 : decode cX5_ewes 63 = .ok (.aload_n 0, 1) := by decide +kernel
theorem dX5_ewes_64 : decode cX5_ewes 64 = .ok (.getfield 10, 3) := by decide +kernel
theorem dX5_ewes_67 : decode cX5_ewes 67 = .ok (.aload_n 0, 1) := by decide +kernel
theorem dX5_ewes_68 : decode cX5_ewes 68 = .ok (.getfield 10, 3) := by decide +kernel
theorem dX5_ewes_71 : decode cX5_ewes 71 = .ok (.getfield 118, 3) := by decide +kernel
theorem dX5_ewes_74 : decode cX5_ewes 74 = .ok (.invokevirtual 271, 3) := by decide +kernel
theorem dX5_ewes_77 : decode cX5_ewes 77 = .ok (.ireturn, 1) := by decide +kernel
theorem dX5_ewes_78 : decode cX5_ewes 78 = .ok (.aload_n 0, 1) := by decide +kernel
theorem dX5_ewes_79 : decode cX5_ewes 79 = .ok (.bipush (-2), 2) := by decide +kernel
theorem dX5_ewes_81 : decode cX5_ewes 81 = .ok (.invokevirtual 59, 3) := by decide +kernel
theorem dX5_ewes_84 : decode cX5_ewes 84 = .ok (.ireturn, 1) := by decide +kernel
theorem dX5_path_0 : decode cX5_path 0 = .ok (.aload_n 0, 1) := by decide +kernel
theorem dX5_path_1 : decode cX5_path 1 = .ok (.getfield 10, 3) := by decide +kernel
theorem dX5_path_4 : decode cX5_path 4 = .ok (.iload_n 1, 1) := by decide +kernel
theorem dX5_path_5 : decode cX5_path 5 = .ok (.invokevirtual 128, 3) := by decide +kernel
theorem dX5_path_8 : decode cX5_path 8 = .ok (.ifCond .ne 10, 3) := by decide +kernel
theorem dX5_path_11 : decode cX5_path 11 = .ok (.aload_n 0, 1) := by decide +kernel
theorem dX5_path_12 : decode cX5_path 12 = .ok (.bipush (-2), 2) := by decide +kernel
theorem dX5_path_14 : decode cX5_path 14 = .ok (.invokevirtual 59, 3) := by decide +kernel
theorem dX5_path_17 : decode cX5_path 17 = .ok (.ireturn, 1) := by decide +kernel
theorem dX5_path_18 : decode cX5_path 18 = .ok (.iload_n 1, 1) := by decide +kernel
theorem dX5_path_19 : decode cX5_path 19 = .ok (.invokestatic 274, 3) := by decide +kernel
theorem dX5_path_22 : decode cX5_path 22 = .ok (.lstore_n 2, 1) := by decide +kernel
theorem dX5_path_23 : decode cX5_path 23 = .ok (.aload_n 0, 1) := by decide +kernel
theorem dX5_path_24 : decode cX5_path 24 = .ok (.getfield 10, 3) := by decide +kernel
theorem dX5_path_27 : decode cX5_path 27 = .ok (.invokevirtual 277, 3) := by decide +kernel
theorem dX5_path_30 : decode cX5_path 30 = .ok (.lstore 4, 2) := by decide +kernel
theorem dX5_path_32 : decode cX5_path 32 = .ok (.aload_n 0, 1) := by decide +kernel
theorem dX5_path_33 : decode cX5_path 33 = .ok (.getfield 10, 3) := by decide +kernel
theorem dX5_path_36 : decode cX5_path 36 = .ok (.getfield 118, 3) := by decide +kernel
theorem dX5_path_39 : decode cX5_path 39 = .ok (.getfield 150, 3) := by decide +kernel
theorem dX5_path_42 : decode cX5_path 42 = .ok (.invokestatic 274, 3) := by decide +kernel
theorem dX5_path_45 : decode cX5_path 45 = .ok (.lstore 6, 2) := by decide +kernel
theorem dX5_path_47 : decode cX5_path 47 = .ok (.iconst 0, 1) := by decide +kernel
theorem dX5_path_48 : decode cX5_path 48 = .ok (.istore 8, 2) := by decide +kernel
theorem dX5_path_50 : decode cX5_path 50 = .ok (.iload 8, 2) := by decide +kernel
theorem dX5_path_52 : decode cX5_path 52 = .ok (.bipush 67, 2) := by decide +kernel
theorem dX5_path_54 : decode cX5_path 54 = .ok (.if_icmp .ge 30, 3) := by decide +kernel
theorem dX5_path_57 : decode cX5_path 57 = .ok (.lload 6, 2) := by decide +kernel
theorem dX5_path_59 : decode cX5_path 59 = .ok (.lload_n 2, 1) := by decide +kernel
theorem dX5_path_60 : decode cX5_path 60 = .ok (.land, 1) := by decide +kernel
theorem dX5_path_61 : decode cX5_path 61 = .ok (.lconst 0, 1) := by decide +kernel
theorem dX5_path_62 : decode cX5_path 62 = .ok (.lcmp, 1) := by decide +kernel
theorem dX5_path_63 : decode cX5_path 63 = .ok (.ifCond .eq 6, 3) := by decide +kernel
theorem dX5_path_66 : decode cX5_path 66 = .ok (.iload 8, 2) := by decide +kernel
theorem dX5_path_68 : decode cX5_path 68 = .ok (.ireturn, 1) := by decide +kernel
theorem dX5_path_69 : decode cX5_path 69 = .ok (.lload 6, 2) := by decide +kernel
theorem dX5_path_71 : decode cX5_path 71 = .ok (.lload 4, 2) := by decide +kernel
theorem dX5_path_73 : decode cX5_path 73 = .ok (.invokestatic 280, 3) := by decide +kernel
theorem dX5_path_76 : decode cX5_path 76 = .ok (.lstore 6, 2) := by decide +kernel
theorem dX5_path_78 : decode cX5_path 78 = .ok (.iinc 8 1, 3) := by decide +kernel
theorem dX5_path_81 : decode cX5_path 81 = .ok (.goto (-31), 3) := by decide +kernel
theorem dX5_path_84 : decode cX5_path 84 = .ok (.iconst (-1), 1) := by decide +kernel
theorem dX5_path_85 : decode cX5_path 85 = .ok (.ireturn, 1) := by decide +kernel
theorem dX5_reach_0 : decode cX5_reach 0 = .ok (.iload_n 1, 1) := by decide +kernel
theorem dX5_reach_1 : decode cX5_reach 1 = .ok (.ifCond .lt 9, 3) := by decide +kernel
theorem dX5_reach_4 : decode cX5_reach 4 = .ok (.iload_n 1, 1) := by decide +kernel
theorem dX5_reach_5 : decode cX5_reach 5 = .ok (.bipush 99, 2) := by decide +kernel
theorem dX5_reach_7 : decode cX5_reach 7 = .ok (.if_icmp .le 10, 3) := by decide +kernel
theorem dX5_reach_10 : decode cX5_reach 10 = .ok (.aload_n 0, 1) := by decide +kernel
theorem dX5_reach_11 : decode cX5_reach 11 = .ok (.bipush (-2), 2) := by decide +kernel
theorem dX5_reach_13 : decode cX5_reach 13 = .ok (.invokevirtual 59, 3) := by decide +kernel
theorem dX5_reach_16 : decode cX5_reach 16 = .ok (.ireturn, 1) := by decide +kernel
theorem dX5_reach_17 : decode cX5_reach 17 = .ok (.aload_n 0, 1) := by decide +kernel
theorem dX5_reach_18 : decode cX5_reach 18 = .ok (.getfield 10, 3) := by decide +kernel
theorem dX5_reach_21 : decode cX5_reach 21 = .ok (.invokevirtual 277, 3) := by decide +kernel
theorem dX5_reach_24 : decode cX5_reach 24 = .ok (.lstore_n 2, 1) := by decide +kernel
theorem dX5_reach_25 : decode cX5_reach 25 = .ok (.aload_n 0, 1) := by decide +kernel
theorem dX5_reach_26 : decode cX5_reach 26 = .ok (.getfield 10, 3) := by decide +kernel
theorem dX5_reach_29 : decode cX5_reach 29 = .ok (.getfield 118, 3) := by decide +kernel
theorem dX5_reach_32 : decode cX5_reach 32 = .ok (.getfield 150, 3) := by decide +kernel
theorem dX5_reach_35 : decode cX5_reach 35 = .ok (.invokestatic 274, 3) := by decide +kernel
theorem dX5_reach_38 : decode cX5_reach 38 = .ok (.lstore 4, 2) := by decide +kernel
theorem dX5_reach_40 : decode cX5_reach 40 = .ok (.iconst 0, 1) := by decide +kernel
theorem dX5_reach_41 : decode cX5_reach 41 = .ok (.istore 6, 2) := by decide +kernel
theorem dX5_reach_43 : decode cX5_reach 43 = .ok (.iload 6, 2) := by decide +kernel
theorem dX5_reach_45 : decode cX5_reach 45 = .ok (.iload_n 1, 1) := by decide +kernel
theorem dX5_reach_46 : decode cX5_reach 46 = .ok (.if_icmp .ge 17, 3) := by decide +kernel
theorem dX5_reach_49 : decode cX5_reach 49 = .ok (.lload 4, 2) := by decide +kernel
theorem dX5_reach_51 : decode cX5_reach 51 = .ok (.lload_n 2, 1) := by decide +kernel
theorem dX5_reach_52 : decode cX5_reach 52 = .ok (.invokestatic 280, 3) := by decide +kernel
theorem dX5_reach_55 : decode cX5_reach 55 = .ok (.lstore 4, 2) := by decide +kernel
theorem dX5_reach_57 : decode cX5_reach 57 = .ok (.iinc 6 1, 3) := by decide +kernel
theorem dX5_reach_60 : decode cX5_reach 60 = .ok (.goto (-17), 3) := by decide +kernel
theorem dX5_reach_63 : decode cX5_reach 63 = .ok (.lload 4, 2) := by decide +kernel
theorem dX5_reach_65 : decode cX5_reach 65 = .ok (.invokestatic 284, 3) := by decide +kernel
theorem dX5_reach_68 : decode cX5_reach 68 = .ok (.ireturn, 1) := by decide +kernel
theorem dX5_ways_0 : decode cX5_ways 0 = .ok (.iload_n 1, 1) := by decide +kernel
theorem dX5_ways_1 : decode cX5_ways 1 = .ok (.ifCond .lt 9, 3) := by decide +kernel
theorem dX5_ways_4 : decode cX5_ways 4 = .ok (.iload_n 1, 1) := by decide +kernel
theorem dX5_ways_5 : decode cX5_ways 5 = .ok (.bipush 6, 2) := by decide +kernel
theorem dX5_ways_7 : decode cX5_ways 7 = .ok (.if_icmp .le 10, 3) := by decide +kernel
theorem dX5_ways_10 : decode cX5_ways 10 = .ok (.aload_n 0, 1) := by decide +kernel
theorem dX5_ways_11 : decode cX5_ways 11 = .ok (.bipush (-2), 2) := by decide +kernel
theorem dX5_ways_13 : decode cX5_ways 13 = .ok (.invokevirtual 59, 3) := by decide +kernel
theorem dX5_ways_16 : decode cX5_ways 16 = .ok (.ireturn, 1) := by decide +kernel
theorem dX5_ways_17 : decode cX5_ways 17 = .ok (.aload_n 0, 1) := by decide +kernel
theorem dX5_ways_18 : decode cX5_ways 18 = .ok (.getfield 51, 3) := by decide +kernel
theorem dX5_ways_21 : decode cX5_ways 21 = .ok (.aload_n 0, 1) := by decide +kernel
theorem dX5_ways_22 : decode cX5_ways 22 = .ok (.getfield 10, 3) := by decide +kernel
theorem dX5_ways_25 : decode cX5_ways 25 = .ok (.iload_n 1, 1) := by decide +kernel
theorem dX5_ways_26 : decode cX5_ways 26 = .ok (.invokevirtual 290, 3) := by decide +kernel
theorem dX5_ways_29 : decode cX5_ways 29 = .ok (.ireturn, 1) := by decide +kernel
theorem dX5_open_0 : decode cX5_open 0 = .ok (.aload_n 0, 1) := by decide +kernel
theorem dX5_open_1 : decode cX5_open 1 = .ok (.getfield 10, 3) := by decide +kernel
theorem dX5_open_4 : decode cX5_open 4 = .ok (.iload_n 1, 1) := by decide +kernel
theorem dX5_open_5 : decode cX5_open 5 = .ok (.invokevirtual 128, 3) := by decide +kernel
theorem dX5_open_8 : decode cX5_open 8 = .ok (.ifCond .ne 10, 3) := by decide +kernel
theorem dX5_open_11 : decode cX5_open 11 = .ok (.aload_n 0, 1) := by decide +kernel
theorem dX5_open_12 : decode cX5_open 12 = .ok (.bipush (-2), 2) := by decide +kernel
theorem dX5_open_14 : decode cX5_open 14 = .ok (.invokevirtual 59, 3) := by decide +kernel
theorem dX5_open_17 : decode cX5_open 17 = .ok (.ireturn, 1) := by decide +kernel
theorem dX5_open_18 : decode cX5_open 18 = .ok (.iconst 0, 1) := by decide +kernel
theorem dX5_open_19 : decode cX5_open 19 = .ok (.istore_n 2, 1) := by decide +kernel
theorem dX5_open_20 : decode cX5_open 20 = .ok (.iconst 1, 1) := by decide +kernel
theorem dX5_open_21 : decode cX5_open 21 = .ok (.istore_n 3, 1) := by decide +kernel
theorem dX5_open_22 : decode cX5_open 22 = .ok (.iload_n 3, 1) := by decide +kernel
theorem dX5_open_23 : decode cX5_open 23 = .ok (.iconst 5, 1) := by decide +kernel
theorem dX5_open_24 : decode cX5_open 24 = .ok (.if_icmp .ge 29, 3) := by decide +kernel
theorem dX5_open_27 : decode cX5_open 27 = .ok (.aload_n 0, 1) := by decide +kernel
theorem dX5_open_28 : decode cX5_open 28 = .ok (.getfield 10, 3) := by decide +kernel
theorem dX5_open_31 : decode cX5_open 31 = .ok (.iload_n 1, 1) := by decide +kernel
theorem dX5_open_32 : decode cX5_open 32 = .ok (.getstatic 294, 3) := by decide +kernel
theorem dX5_open_35 : decode cX5_open 35 = .ok (.iload_n 3, 1) := by decide +kernel
theorem dX5_open_36 : decode cX5_open 36 = .ok (.iaload, 1) := by decide +kernel
theorem dX5_open_37 : decode cX5_open 37 = .ok (.iadd, 1) := by decide +kernel
theorem dX5_open_38 : decode cX5_open 38 = .ok (.invokevirtual 153, 3) := by decide +kernel
theorem dX5_open_41 : decode cX5_open 41 = .ok (.ifCond .eq 6, 3) := by decide +kernel
theorem dX5_open_44 : decode cX5_open 44 = .ok (.iinc 2 1, 3) := by decide +kernel
theorem dX5_open_47 : decode cX5_open 47 = .ok (.iinc 3 1, 3) := by decide +kernel
theorem dX5_open_50 : decode cX5_open 50 = .ok (.goto (-28), 3) := by decide +kernel
theorem dX5_open_53 : decode cX5_open 53 = .ok (.iload_n 2, 1) := by decide +kernel
theorem dX5_open_54 : decode cX5_open 54 = .ok (.ireturn, 1) := by decide +kernel
theorem dX5_still_0 : decode cX5_still 0 = .ok (.iload_n 1, 1) := by decide +kernel
theorem dX5_still_1 : decode cX5_still 1 = .ok (.ifCond .lt 8, 3) := by decide +kernel
theorem dX5_still_4 : decode cX5_still 4 = .ok (.iload_n 1, 1) := by decide +kernel
theorem dX5_still_5 : decode cX5_still 5 = .ok (.iconst 1, 1) := by decide +kernel
theorem dX5_still_6 : decode cX5_still 6 = .ok (.if_icmp .le 10, 3) := by decide +kernel
theorem dX5_still_9 : decode cX5_still 9 = .ok (.aload_n 0, 1) := by decide +kernel
theorem dX5_still_10 : decode cX5_still 10 = .ok (.bipush (-2), 2) := by decide +kernel
theorem dX5_still_12 : decode cX5_still 12 = .ok (.invokevirtual 59, 3) := by decide +kernel
theorem dX5_still_15 : decode cX5_still 15 = .ok (.ireturn, 1) := by decide +kernel
theorem dX5_still_16 : decode cX5_still 16 = .ok (.iconst 0, 1) := by decide +kernel
theorem dX5_still_17 : decode cX5_still 17 = .ok (.istore_n 2, 1) := by decide +kernel
theorem dX5_still_18 : decode cX5_still 18 = .ok (.iconst 0, 1) := by decide +kernel
theorem dX5_still_19 : decode cX5_still 19 = .ok (.istore_n 3, 1) := by decide +kernel
theorem dX5_still_20 : decode cX5_still 20 = .ok (.aload_n 0, 1) := by decide +kernel
theorem dX5_still_21 : decode cX5_still 21 = .ok (.getfield 44, 3) := by decide +kernel
theorem dX5_still_24 : decode cX5_still 24 = .ok (.aload_n 0, 1) := by decide +kernel
theorem dX5_still_25 : decode cX5_still 25 = .ok (.getfield 10, 3) := by decide +kernel
theorem dX5_still_28 : decode cX5_still 28 = .ok (.getfield 118, 3) := by decide +kernel
theorem dX5_still_31 : decode cX5_still 31 = .ok (.invokevirtual 191, 3) := by decide +kernel
theorem dX5_still_34 : decode cX5_still 34 = .ok (.iconst 0, 1) := by decide +kernel
theorem dX5_still_35 : decode cX5_still 35 = .ok (.istore 4, 2) := by decide +kernel
theorem dX5_still_37 : decode cX5_still 37 = .ok (.iload 4, 2) := by decide +kernel
theorem dX5_still_39 : decode cX5_still 39 = .ok (.bipush 67, 2) := by decide +kernel
theorem dX5_still_41 : decode cX5_still 41 = .ok (.if_icmp .ge 66, 3) := by decide +kernel
theorem dX5_still_44 : decode cX5_still 44 = .ok (.aload_n 0, 1) := by decide +kernel
theorem dX5_still_45 : decode cX5_still 45 = .ok (.getfield 10, 3) := by decide +kernel
theorem dX5_still_48 : decode cX5_still 48 = .ok (.iload 4, 2) := by decide +kernel
theorem dX5_still_50 : decode cX5_still 50 = .ok (.invokevirtual 147, 3) := by decide +kernel
theorem dX5_still_53 : decode cX5_still 53 = .ok (.ifCond .eq 48, 3) := by decide +kernel
theorem dX5_still_56 : decode cX5_still 56 = .ok (.aload_n 0, 1) := by decide +kernel
theorem dX5_still_57 : decode cX5_still 57 = .ok (.getfield 44, 3) := by decide +kernel
theorem dX5_still_60 : decode cX5_still 60 = .ok (.iload 4, 2) := by decide +kernel
theorem dX5_still_62 : decode cX5_still 62 = .ok (.putfield 150, 3) := by decide +kernel
theorem dX5_still_65 : decode cX5_still 65 = .ok (.aload_n 0, 1) := by decide +kernel
theorem dX5_still_66 : decode cX5_still 66 = .ok (.getfield 10, 3) := by decide +kernel
theorem dX5_still_69 : decode cX5_still 69 = .ok (.aload_n 0, 1) := by decide +kernel
theorem dX5_still_70 : decode cX5_still 70 = .ok (.getfield 44, 3) := by decide +kernel
theorem dX5_still_73 : decode cX5_still 73 = .ok (.invokevirtual 271, 3) := by decide +kernel
theorem dX5_still_76 : decode cX5_still 76 = .ok (.invokestatic 297, 3) := by decide +kernel
theorem dX5_still_79 : decode cX5_still 79 = .ok (.istore 5, 2) := by decide +kernel
theorem dX5_still_81 : decode cX5_still 81 = .ok (.iload_n 3, 1) := by decide +kernel
theorem dX5_still_82 : decode cX5_still 82 = .ok (.iload 5, 2) := by decide +kernel
theorem dX5_still_84 : decode cX5_still 84 = .ok (.invokestatic 223, 3) := by decide +kernel
theorem dX5_still_87 : decode cX5_still 87 = .ok (.istore_n 3, 1) := by decide +kernel
theorem dX5_still_88 : decode cX5_still 88 = .ok (.iload_n 2, 1) := by decide +kernel
theorem dX5_still_89 : decode cX5_still 89 = .ok (.iload 5, 2) := by decide +kernel
theorem dX5_still_91 : decode cX5_still 91 = .ok (.ifCond .ne 7, 3) := by decide +kernel
theorem dX5_still_94 : decode cX5_still 94 = .ok (.iconst 1, 1) := by decide +kernel
theorem dX5_still_95 : decode cX5_still 95 = .ok (.goto 4, 3) := by decide +kernel
theorem dX5_still_98 : decode cX5_still 98 = .ok (.iconst 0, 1) := by decide +kernel
theorem dX5_still_99 : decode cX5_still 99 = .ok (.iadd, 1) := by decide +kernel
theorem dX5_still_100 : decode cX5_still 100 = .ok (.istore_n 2, 1) := by decide +kernel
theorem dX5_still_101 : decode cX5_still 101 = .ok (.iinc 4 1, 3) := by decide +kernel
theorem dX5_still_104 : decode cX5_still 104 = .ok (.goto (-67), 3) := by decide +kernel
theorem dX5_still_107 : decode cX5_still 107 = .ok (.iload_n 1, 1) := by decide +kernel
theorem dX5_still_108 : decode cX5_still 108 = .ok (.ifCond .ne 7, 3) := by decide +kernel
theorem dX5_still_111 : decode cX5_still 111 = .ok (.iload_n 2, 1) := by decide +kernel
theorem dX5_still_112 : decode cX5_still 112 = .ok (.goto 4, 3) := by decide +kernel
theorem dX5_still_115 : decode cX5_still 115 = .ok (.iload_n 3, 1) := by decide +kernel
theorem dX5_still_116 : decode cX5_still 116 = .ok (.ireturn, 1) := by decide +kernel
theorem dX5_held_0 : decode cX5_held 0 = .ok (.aload_n 0, 1) := by decide +kernel
theorem dX5_held_1 : decode cX5_held 1 = .ok (.getfield 10, 3) := by decide +kernel
theorem dX5_held_4 : decode cX5_held 4 = .ok (.invokevirtual 301, 3) := by decide +kernel
theorem dX5_held_7 : decode cX5_held 7 = .ok (.aload_n 0, 1) := by decide +kernel
theorem dX5_held_8 : decode cX5_held 8 = .ok (.invokevirtual 304, 3) := by decide +kernel
theorem dX5_held_11 : decode cX5_held 11 = .ok (.iconst (-1), 1) := by decide +kernel
theorem dX5_held_12 : decode cX5_held 12 = .ok (.ixor, 1) := by decide +kernel
theorem dX5_held_13 : decode cX5_held 13 = .ok (.iand, 1) := by decide +kernel
theorem dX5_held_14 : decode cX5_held 14 = .ok (.aload_n 0, 1) := by decide +kernel
theorem dX5_held_15 : decode cX5_held 15 = .ok (.getfield 10, 3) := by decide +kernel
theorem dX5_held_18 : decode cX5_held 18 = .ok (.aload_n 0, 1) := by decide +kernel
theorem dX5_held_19 : decode cX5_held 19 = .ok (.getfield 10, 3) := by decide +kernel
theorem dX5_held_22 : decode cX5_held 22 = .ok (.getfield 118, 3) := by decide +kernel
theorem dX5_held_25 : decode cX5_held 25 = .ok (.invokevirtual 271, 3) := by decide +kernel
theorem dX5_held_28 : decode cX5_held 28 = .ok (.iconst (-1), 1) := by decide +kernel
theorem dX5_held_29 : decode cX5_held 29 = .ok (.ixor, 1) := by decide +kernel
theorem dX5_held_30 : decode cX5_held 30 = .ok (.iand, 1) := by decide +kernel
theorem dX5_held_31 : decode cX5_held 31 = .ok (.ireturn, 1) := by decide +kernel
theorem dX5_grazing_0 : decode cX5_grazing 0 = .ok (.iconst 0, 1) := by decide +kernel
theorem dX5_grazing_1 : decode cX5_grazing 1 = .ok (.istore_n 1, 1) := by decide +kernel
theorem dX5_grazing_2 : decode cX5_grazing 2 = .ok (.iconst 0, 1) := by decide +kernel
theorem dX5_grazing_3 : decode cX5_grazing 3 = .ok (.istore_n 2, 1) := by decide +kernel
theorem dX5_grazing_4 : decode cX5_grazing 4 = .ok (.iload_n 2, 1) := by decide +kernel
theorem dX5_grazing_5 : decode cX5_grazing 5 = .ok (.aload_n 0, 1) := by decide +kernel
theorem dX5_grazing_6 : decode cX5_grazing 6 = .ok (.getfield 10, 3) := by decide +kernel
theorem dX5_grazing_9 : decode cX5_grazing 9 = .ok (.getfield 156, 3) := by decide +kernel
theorem dX5_grazing_12 : decode cX5_grazing 12 = .ok (.if_icmp .ge 62, 3) := by decide +kernel
theorem dX5_grazing_15 : decode cX5_grazing 15 = .ok (.aload_n 0, 1) := by decide +kernel
theorem dX5_grazing_16 : decode cX5_grazing 16 = .ok (.getfield 10, 3) := by decide +kernel
theorem dX5_grazing_19 : decode cX5_grazing 19 = .ok (.aload_n 0, 1) := by decide +kernel
theorem dX5_grazing_20 : decode cX5_grazing 20 = .ok (.getfield 10, 3) := by decide +kernel
theorem dX5_grazing_23 : decode cX5_grazing 23 = .ok (.getfield 118, 3) := by decide +kernel
theorem dX5_grazing_26 : decode cX5_grazing 26 = .ok (.iload_n 2, 1) := by decide +kernel
theorem dX5_grazing_27 : decode cX5_grazing 27 = .ok (.invokevirtual 307, 3) := by decide +kernel
theorem dX5_grazing_30 : decode cX5_grazing 30 = .ok (.ifCond .ne 38, 3) := by decide +kernel
theorem dX5_grazing_33 : decode cX5_grazing 33 = .ok (.aload_n 0, 1) := by decide +kernel
theorem dX5_grazing_34 : decode cX5_grazing 34 = .ok (.getfield 10, 3) := by decide +kernel
theorem dX5_grazing_37 : decode cX5_grazing 37 = .ok (.getfield 118, 3) := by decide +kernel
theorem dX5_grazing_40 : decode cX5_grazing 40 = .ok (.getfield 162, 3) := by decide +kernel
theorem dX5_grazing_43 : decode cX5_grazing 43 = .ok (.iload_n 2, 1) := by decide +kernel
theorem dX5_grazing_44 : decode cX5_grazing 44 = .ok (.iaload, 1) := by decide +kernel
theorem dX5_grazing_45 : decode cX5_grazing 45 = .ok (.aload_n 0, 1) := by decide +kernel
theorem dX5_grazing_46 : decode cX5_grazing 46 = .ok (.getfield 10, 3) := by decide +kernel
theorem dX5_grazing_49 : decode cX5_grazing 49 = .ok (.getfield 118, 3) := by decide +kernel
theorem dX5_grazing_52 : decode cX5_grazing 52 = .ok (.getfield 150, 3) := by decide +kernel
theorem dX5_grazing_55 : decode cX5_grazing 55 = .ok (.invokestatic 183, 3) := by decide +kernel
theorem dX5_grazing_58 : decode cX5_grazing 58 = .ok (.iconst 3, 1) := by decide +kernel
theorem dX5_grazing_59 : decode cX5_grazing 59 = .ok (.if_icmp .le 9, 3) := by decide +kernel
theorem dX5_grazing_62 : decode cX5_grazing 62 = .ok (.iload_n 1, 1) := by decide +kernel
theorem dX5_grazing_63 : decode cX5_grazing 63 = .ok (.iconst 1, 1) := by decide +kernel
theorem dX5_grazing_64 : decode cX5_grazing 64 = .ok (.iload_n 2, 1) := by decide +kernel
theorem dX5_grazing_65 : decode cX5_grazing 65 = .ok (.ishl, 1) := by decide +kernel
theorem dX5_grazing_66 : decode cX5_grazing 66 = .ok (.ior, 1) := by decide +kernel
theorem dX5_grazing_67 : decode cX5_grazing 67 = .ok (.istore_n 1, 1) := by decide +kernel
theorem dX5_grazing_68 : decode cX5_grazing 68 = .ok (.iinc 2 1, 3) := by decide +kernel
theorem dX5_grazing_71 : decode cX5_grazing 71 = .ok (.goto (-67), 3) := by decide +kernel
theorem dX5_grazing_74 : decode cX5_grazing 74 = .ok (.iload_n 1, 1) := by decide +kernel
theorem dX5_grazing_75 : decode cX5_grazing 75 = .ok (.ireturn, 1) := by decide +kernel
theorem dX5_last_0 : decode cX5_last 0 = .ok (.iconst (-1), 1) := by decide +kernel
theorem dX5_last_1 : decode cX5_last 1 = .ok (.istore_n 1, 1) := by decide +kernel
theorem dX5_last_2 : decode cX5_last 2 = .ok (.iconst (-1), 1) := by decide +kernel
theorem dX5_last_3 : decode cX5_last 3 = .ok (.istore_n 2, 1) := by decide +kernel
theorem dX5_last_4 : decode cX5_last 4 = .ok (.iconst 0, 1) := by decide +kernel
theorem dX5_last_5 : decode cX5_last 5 = .ok (.istore_n 3, 1) := by decide +kernel
theorem dX5_last_6 : decode cX5_last 6 = .ok (.iload_n 3, 1) := by decide +kernel
theorem dX5_last_7 : decode cX5_last 7 = .ok (.aload_n 0, 1) := by decide +kernel
theorem dX5_last_8 : decode cX5_last 8 = .ok (.getfield 10, 3) := by decide +kernel
theorem dX5_last_11 : decode cX5_last 11 = .ok (.getfield 156, 3) := by decide +kernel
theorem dX5_last_14 : decode cX5_last 14 = .ok (.if_icmp .ge 44, 3) := by decide +kernel
theorem dX5_last_17 : decode cX5_last 17 = .ok (.aload_n 0, 1) := by decide +kernel
theorem dX5_last_18 : decode cX5_last 18 = .ok (.getfield 10, 3) := by decide +kernel
theorem dX5_last_21 : decode cX5_last 21 = .ok (.getfield 118, 3) := by decide +kernel
theorem dX5_last_24 : decode cX5_last 24 = .ok (.getfield 162, 3) := by decide +kernel
theorem dX5_last_27 : decode cX5_last 27 = .ok (.iload_n 3, 1) := by decide +kernel
theorem dX5_last_28 : decode cX5_last 28 = .ok (.iaload, 1) := by decide +kernel
theorem dX5_last_29 : decode cX5_last 29 = .ok (.aload_n 0, 1) := by decide +kernel
theorem dX5_last_30 : decode cX5_last 30 = .ok (.getfield 10, 3) := by decide +kernel
theorem dX5_last_33 : decode cX5_last 33 = .ok (.getfield 144, 3) := by decide +kernel
theorem dX5_last_36 : decode cX5_last 36 = .ok (.invokestatic 183, 3) := by decide +kernel
theorem dX5_last_39 : decode cX5_last 39 = .ok (.istore 4, 2) := by decide +kernel
theorem dX5_last_41 : decode cX5_last 41 = .ok (.iload 4, 2) := by decide +kernel
theorem dX5_last_43 : decode cX5_last 43 = .ok (.iload_n 2, 1) := by decide +kernel
theorem dX5_last_44 : decode cX5_last 44 = .ok (.if_icmp .le 8, 3) := by decide +kernel
theorem dX5_last_47 : decode cX5_last 47 = .ok (.iload_n 3, 1) := by decide +kernel
theorem dX5_last_48 : decode cX5_last 48 = .ok (.istore_n 1, 1) := by decide +kernel
theorem dX5_last_49 : decode cX5_last 49 = .ok (.iload 4, 2) := by decide +kernel
theorem dX5_last_51 : decode cX5_last 51 = .ok (.istore_n 2, 1) := by decide +kernel
theorem dX5_last_52 : decode cX5_last 52 = .ok (.iinc 3 1, 3) := by decide +kernel
theorem dX5_last_55 : decode cX5_last 55 = .ok (.goto (-49), 3) := by decide +kernel
theorem dX5_last_58 : decode cX5_last 58 = .ok (.iload_n 1, 1) := by decide +kernel
theorem dX5_last_59 : decode cX5_last 59 = .ok (.ireturn, 1) := by decide +kernel
theorem dX5_near_0 : decode cX5_near 0 = .ok (.aload_n 0, 1) := by decide +kernel
theorem dX5_near_1 : decode cX5_near 1 = .ok (.getfield 10, 3) := by decide +kernel
theorem dX5_near_4 : decode cX5_near 4 = .ok (.iload_n 1, 1) := by decide +kernel
theorem dX5_near_5 : decode cX5_near 5 = .ok (.invokevirtual 103, 3) := by decide +kernel
theorem dX5_near_8 : decode cX5_near 8 = .ok (.ifCond .eq 13, 3) := by decide +kernel
theorem dX5_near_11 : decode cX5_near 11 = .ok (.iload_n 2, 1) := by decide +kernel
theorem dX5_near_12 : decode cX5_near 12 = .ok (.ifCond .lt 9, 3) := by decide +kernel
theorem dX5_near_15 : decode cX5_near 15 = .ok (.iload_n 2, 1) := by decide +kernel
theorem dX5_near_16 : decode cX5_near 16 = .ok (.bipush 12, 2) := by decide +kernel
theorem dX5_near_18 : decode cX5_near 18 = .ok (.if_icmp .le 10, 3) := by decide +kernel
theorem dX5_near_21 : decode cX5_near 21 = .ok (.aload_n 0, 1) := by decide +kernel
theorem dX5_near_22 : decode cX5_near 22 = .ok (.bipush (-2), 2) := by decide +kernel
theorem dX5_near_24 : decode cX5_near 24 = .ok (.invokevirtual 59, 3) := by decide +kernel
theorem dX5_near_27 : decode cX5_near 27 = .ok (.ireturn, 1) := by decide +kernel
theorem dX5_near_28 : decode cX5_near 28 = .ok (.iconst 0, 1) := by decide +kernel
theorem dX5_near_29 : decode cX5_near 29 = .ok (.istore_n 3, 1) := by decide +kernel
theorem dX5_near_30 : decode cX5_near 30 = .ok (.iconst 0, 1) := by decide +kernel
theorem dX5_near_31 : decode cX5_near 31 = .ok (.istore 4, 2) := by decide +kernel
theorem dX5_near_33 : decode cX5_near 33 = .ok (.iload 4, 2) := by decide +kernel
theorem dX5_near_35 : decode cX5_near 35 = .ok (.aload_n 0, 1) := by decide +kernel
theorem dX5_near_36 : decode cX5_near 36 = .ok (.getfield 10, 3) := by decide +kernel
theorem dX5_near_39 : decode cX5_near 39 = .ok (.getfield 156, 3) := by decide +kernel
theorem dX5_near_42 : decode cX5_near 42 = .ok (.if_icmp .ge 54, 3) := by decide +kernel
theorem dX5_near_45 : decode cX5_near 45 = .ok (.iload 4, 2) := by decide +kernel
theorem dX5_near_47 : decode cX5_near 47 = .ok (.iload_n 1, 1) := by decide +kernel
theorem dX5_near_48 : decode cX5_near 48 = .ok (.if_icmp .eq 42, 3) := by decide +kernel
theorem dX5_near_51 : decode cX5_near 51 = .ok (.aload_n 0, 1) := by decide +kernel
theorem dX5_near_52 : decode cX5_near 52 = .ok (.getfield 10, 3) := by decide +kernel
theorem dX5_near_55 : decode cX5_near 55 = .ok (.getfield 118, 3) := by decide +kernel
theorem dX5_near_58 : decode cX5_near 58 = .ok (.getfield 162, 3) := by decide +kernel
theorem dX5_near_61 : decode cX5_near 61 = .ok (.iload 4, 2) := by decide +kernel
theorem dX5_near_63 : decode cX5_near 63 = .ok (.iaload, 1) := by decide +kernel
theorem dX5_near_64 : decode cX5_near 64 = .ok (.aload_n 0, 1) := by decide +kernel
theorem dX5_near_65 : decode cX5_near 65 = .ok (.getfield 10, 3) := by decide +kernel
theorem dX5_near_68 : decode cX5_near 68 = .ok (.getfield 118, 3) := by decide +kernel
theorem dX5_near_71 : decode cX5_near 71 = .ok (.getfield 162, 3) := by decide +kernel
theorem dX5_near_74 : decode cX5_near 74 = .ok (.iload_n 1, 1) := by decide +kernel
theorem dX5_near_75 : decode cX5_near 75 = .ok (.iaload, 1) := by decide +kernel
theorem dX5_near_76 : decode cX5_near 76 = .ok (.invokestatic 183, 3) := by decide +kernel
theorem dX5_near_79 : decode cX5_near 79 = .ok (.iload_n 2, 1) := by decide +kernel
theorem dX5_near_80 : decode cX5_near 80 = .ok (.if_icmp .gt 10, 3) := by decide +kernel
theorem dX5_near_83 : decode cX5_near 83 = .ok (.iload_n 3, 1) := by decide +kernel
theorem dX5_near_84 : decode cX5_near 84 = .ok (.iconst 1, 1) := by decide +kernel
theorem dX5_near_85 : decode cX5_near 85 = .ok (.iload 4, 2) := by decide +kernel
theorem dX5_near_87 : decode cX5_near 87 = .ok (.ishl, 1) := by decide +kernel
theorem dX5_near_88 : decode cX5_near 88 = .ok (.ior, 1) := by decide +kernel
theorem dX5_near_89 : decode cX5_near 89 = .ok (.istore_n 3, 1) := by decide +kernel
theorem dX5_near_90 : decode cX5_near 90 = .ok (.iinc 4 1, 3) := by decide +kernel
theorem dX5_near_93 : decode cX5_near 93 = .ok (.goto (-60), 3) := by decide +kernel
theorem dX5_near_96 : decode cX5_near 96 = .ok (.iload_n 3, 1) := by decide +kernel
theorem dX5_near_97 : decode cX5_near 97 = .ok (.ireturn, 1) := by decide +kernel
theorem dX5_steps_0 : decode cX5_steps 0 = .ok (.aload_n 0, 1) := by decide +kernel
theorem dX5_steps_1 : decode cX5_steps 1 = .ok (.getfield 10, 3) := by decide +kernel
theorem dX5_steps_4 : decode cX5_steps 4 = .ok (.aload_n 0, 1) := by decide +kernel
theorem dX5_steps_5 : decode cX5_steps 5 = .ok (.getfield 10, 3) := by decide +kernel
theorem dX5_steps_8 : decode cX5_steps 8 = .ok (.getfield 118, 3) := by decide +kernel
theorem dX5_steps_11 : decode cX5_steps 11 = .ok (.invokevirtual 215, 3) := by decide +kernel
theorem dX5_steps_14 : decode cX5_steps 14 = .ok (.ireturn, 1) := by decide +kernel
theorem dX5_best_0 : decode cX5_best 0 = .ok (.iconst (-1), 1) := by decide +kernel
theorem dX5_best_1 : decode cX5_best 1 = .ok (.istore_n 1, 1) := by decide +kernel
theorem dX5_best_2 : decode cX5_best 2 = .ok (.iconst 0, 1) := by decide +kernel
theorem dX5_best_3 : decode cX5_best 3 = .ok (.istore_n 2, 1) := by decide +kernel
theorem dX5_best_4 : decode cX5_best 4 = .ok (.iconst 0, 1) := by decide +kernel
theorem dX5_best_5 : decode cX5_best 5 = .ok (.istore_n 3, 1) := by decide +kernel
theorem dX5_best_6 : decode cX5_best 6 = .ok (.iload_n 3, 1) := by decide +kernel
theorem dX5_best_7 : decode cX5_best 7 = .ok (.iconst 5, 1) := by decide +kernel
theorem dX5_best_8 : decode cX5_best 8 = .ok (.if_icmp .ge 85, 3) := by decide +kernel
theorem dX5_best_11 : decode cX5_best 11 = .ok (.aload_n 0, 1) := by decide +kernel
theorem dX5_best_12 : decode cX5_best 12 = .ok (.getfield 10, 3) := by decide +kernel
theorem dX5_best_15 : decode cX5_best 15 = .ok (.aload_n 0, 1) := by decide +kernel
theorem dX5_best_16 : decode cX5_best 16 = .ok (.getfield 10, 3) := by decide +kernel
theorem dX5_best_19 : decode cX5_best 19 = .ok (.getfield 118, 3) := by decide +kernel
theorem dX5_best_22 : decode cX5_best 22 = .ok (.getfield 150, 3) := by decide +kernel
theorem dX5_best_25 : decode cX5_best 25 = .ok (.iload_n 3, 1) := by decide +kernel
theorem dX5_best_26 : decode cX5_best 26 = .ok (.invokevirtual 310, 3) := by decide +kernel
theorem dX5_best_29 : decode cX5_best 29 = .ok (.ifCond .eq 58, 3) := by decide +kernel
theorem dX5_best_32 : decode cX5_best 32 = .ok (.aload_n 0, 1) := by decide +kernel
theorem dX5_best_33 : decode cX5_best 33 = .ok (.getfield 44, 3) := by decide +kernel
theorem dX5_best_36 : decode cX5_best 36 = .ok (.aload_n 0, 1) := by decide +kernel
theorem dX5_best_37 : decode cX5_best 37 = .ok (.getfield 10, 3) := by decide +kernel
theorem dX5_best_40 : decode cX5_best 40 = .ok (.getfield 118, 3) := by decide +kernel
theorem dX5_best_43 : decode cX5_best 43 = .ok (.invokevirtual 191, 3) := by decide +kernel
theorem dX5_best_46 : decode cX5_best 46 = .ok (.aload_n 0, 1) := by decide +kernel
theorem dX5_best_47 : decode cX5_best 47 = .ok (.getfield 10, 3) := by decide +kernel
theorem dX5_best_50 : decode cX5_best 50 = .ok (.aload_n 0, 1) := by decide +kernel
theorem dX5_best_51 : decode cX5_best 51 = .ok (.getfield 44, 3) := by decide +kernel
theorem dX5_best_54 : decode cX5_best 54 = .ok (.iload_n 3, 1) := by decide +kernel
theorem dX5_best_55 : decode cX5_best 55 = .ok (.invokevirtual 211, 3) := by decide +kernel
theorem dX5_best_58 : decode cX5_best 58 = .ok (.aload_n 0, 1) := by decide +kernel
theorem dX5_best_59 : decode cX5_best 59 = .ok (.getfield 10, 3) := by decide +kernel
theorem dX5_best_62 : decode cX5_best 62 = .ok (.aload_n 0, 1) := by decide +kernel
theorem dX5_best_63 : decode cX5_best 63 = .ok (.getfield 44, 3) := by decide +kernel
theorem dX5_best_66 : decode cX5_best 66 = .ok (.invokevirtual 215, 3) := by decide +kernel
theorem dX5_best_69 : decode cX5_best 69 = .ok (.istore 4, 2) := by decide +kernel
theorem dX5_best_71 : decode cX5_best 71 = .ok (.iload_n 1, 1) := by decide +kernel
theorem dX5_best_72 : decode cX5_best 72 = .ok (.iconst (-1), 1) := by decide +kernel
theorem dX5_best_73 : decode cX5_best 73 = .ok (.if_icmp .eq 9, 3) := by decide +kernel
theorem dX5_best_76 : decode cX5_best 76 = .ok (.iload 4, 2) := by decide +kernel
theorem dX5_best_78 : decode cX5_best 78 = .ok (.iload_n 2, 1) := by decide +kernel
theorem dX5_best_79 : decode cX5_best 79 = .ok (.if_icmp .ge 8, 3) := by decide +kernel
theorem dX5_best_82 : decode cX5_best 82 = .ok (.iload_n 3, 1) := by decide +kernel
theorem dX5_best_83 : decode cX5_best 83 = .ok (.istore_n 1, 1) := by decide +kernel
theorem dX5_best_84 : decode cX5_best 84 = .ok (.iload 4, 2) := by decide +kernel
theorem dX5_best_86 : decode cX5_best 86 = .ok (.istore_n 2, 1) := by decide +kernel
theorem dX5_best_87 : decode cX5_best 87 = .ok (.iinc 3 1, 3) := by decide +kernel
theorem dX5_best_90 : decode cX5_best 90 = .ok (.goto (-84), 3) := by decide +kernel
theorem dX5_best_93 : decode cX5_best 93 = .ok (.iload_n 1, 1) := by decide +kernel
theorem dX5_best_94 : decode cX5_best 94 = .ok (.ireturn, 1) := by decide +kernel
theorem dX5_kinds_0 : decode cX5_kinds 0 = .ok (.iload_n 1, 1) := by decide +kernel
theorem dX5_kinds_1 : decode cX5_kinds 1 = .ok (.invokestatic 55, 3) := by decide +kernel
theorem dX5_kinds_4 : decode cX5_kinds 4 = .ok (.ifCond .eq 32, 3) := by decide +kernel
theorem dX5_kinds_7 : decode cX5_kinds 7 = .ok (.iload_n 2, 1) := by decide +kernel
theorem dX5_kinds_8 : decode cX5_kinds 8 = .ok (.invokestatic 55, 3) := by decide +kernel
theorem dX5_kinds_11 : decode cX5_kinds 11 = .ok (.ifCond .eq 25, 3) := by decide +kernel
theorem dX5_kinds_14 : decode cX5_kinds 14 = .ok (.iload_n 3, 1) := by decide +kernel
theorem dX5_kinds_15 : decode cX5_kinds 15 = .ok (.ifCond .lt 21, 3) := by decide +kernel
theorem dX5_kinds_18 : decode cX5_kinds 18 = .ok (.iload_n 3, 1) := by decide +kernel
theorem dX5_kinds_19 : decode cX5_kinds 19 = .ok (.bipush 40, 2) := by decide +kernel
theorem dX5_kinds_21 : decode cX5_kinds 21 = .ok (.if_icmp .gt 15, 3) := by decide +kernel
theorem dX5_kinds_24 : decode cX5_kinds 24 = .ok (.aload_n 0, 1) := by decide +kernel
theorem dX5_kinds_25 : decode cX5_kinds 25 = .ok (.getfield 10, 3) := by decide +kernel
theorem dX5_kinds_28 : decode cX5_kinds 28 = .ok (.iload 4, 2) := by decide +kernel
theorem dX5_kinds_30 : decode cX5_kinds 30 = .ok (.invokevirtual 103, 3) := by decide +kernel
theorem dX5_kinds_33 : decode cX5_kinds 33 = .ok (.ifCond .ne 10, 3) := by decide +kernel
theorem dX5_kinds_36 : decode cX5_kinds 36 = .ok (.aload_n 0, 1) := by decide +kernel
theorem dX5_kinds_37 : decode cX5_kinds 37 = .ok (.bipush (-2), 2) := by decide +kernel
theorem dX5_kinds_39 : decode cX5_kinds 39 = .ok (.invokevirtual 59, 3) := by decide +kernel
theorem dX5_kinds_42 : decode cX5_kinds 42 = .ok (.ireturn, 1) := by decide +kernel
theorem dX5_kinds_43 : decode cX5_kinds 43 = .ok (.aload_n 0, 1) := by decide +kernel
theorem dX5_kinds_44 : decode cX5_kinds 44 = .ok (.getfield 32, 3) := by decide +kernel
theorem dX5_kinds_47 : decode cX5_kinds 47 = .ok (.iload_n 1, 1) := by decide +kernel
theorem dX5_kinds_48 : decode cX5_kinds 48 = .ok (.aaload, 1) := by decide +kernel
theorem dX5_kinds_49 : decode cX5_kinds 49 = .ok (.astore 5, 2) := by decide +kernel
theorem dX5_kinds_51 : decode cX5_kinds 51 = .ok (.aload_n 0, 1) := by decide +kernel
theorem dX5_kinds_52 : decode cX5_kinds 52 = .ok (.getfield 32, 3) := by decide +kernel
theorem dX5_kinds_55 : decode cX5_kinds 55 = .ok (.iload_n 2, 1) := by decide +kernel
theorem dX5_kinds_56 : decode cX5_kinds 56 = .ok (.aaload, 1) := by decide +kernel
theorem dX5_kinds_57 : decode cX5_kinds 57 = .ok (.astore 6, 2) := by decide +kernel
theorem dX5_kinds_59 : decode cX5_kinds 59 = .ok (.aload 5, 2) := by decide +kernel
theorem dX5_kinds_61 : decode cX5_kinds 61 = .ok (.invokevirtual 90, 3) := by decide +kernel
theorem dX5_kinds_64 : decode cX5_kinds 64 = .ok (.ifCond .ne 11, 3) := by decide +kernel
theorem dX5_kinds_67 : decode cX5_kinds 67 = .ok (.aload 6, 2) := by decide +kernel
theorem dX5_kinds_69 : decode cX5_kinds 69 = .ok (.invokevirtual 90, 3) := by decide +kernel
theorem dX5_kinds_72 : decode cX5_kinds 72 = .ok (.ifCond .eq 10, 3) := by decide +kernel
theorem dX5_kinds_75 : decode cX5_kinds 75 = .ok (.aload_n 0, 1) := by decide +kernel
theorem dX5_kinds_76 : decode cX5_kinds 76 = .ok (.bipush (-3), 2) := by decide +kernel
theorem dX5_kinds_78 : decode cX5_kinds 78 = .ok (.invokevirtual 59, 3) := by decide +kernel
theorem dX5_kinds_81 : decode cX5_kinds 81 = .ok (.ireturn, 1) := by decide +kernel
theorem dX5_kinds_82 : decode cX5_kinds 82 = .ok (.aload 5, 2) := by decide +kernel
theorem dX5_kinds_84 : decode cX5_kinds 84 = .ok (.invokevirtual 86, 3) := by decide +kernel
theorem dX5_kinds_87 : decode cX5_kinds 87 = .ok (.ifCond .eq 11, 3) := by decide +kernel
theorem dX5_kinds_90 : decode cX5_kinds 90 = .ok (.aload 6, 2) := by decide +kernel
theorem dX5_kinds_92 : decode cX5_kinds 92 = .ok (.invokevirtual 86, 3) := by decide +kernel
theorem dX5_kinds_95 : decode cX5_kinds 95 = .ok (.ifCond .ne 10, 3) := by decide +kernel
theorem dX5_kinds_98 : decode cX5_kinds 98 = .ok (.aload_n 0, 1) := by decide +kernel
theorem dX5_kinds_99 : decode cX5_kinds 99 = .ok (.bipush (-4), 2) := by decide +kernel
theorem dX5_kinds_101 : decode cX5_kinds 101 = .ok (.invokevirtual 59, 3) := by decide +kernel
theorem dX5_kinds_104 : decode cX5_kinds 104 = .ok (.ireturn, 1) := by decide +kernel
theorem dX5_kinds_105 : decode cX5_kinds 105 = .ok (.aload 5, 2) := by decide +kernel
theorem dX5_kinds_107 : decode cX5_kinds 107 = .ok (.getfield 71, 3) := by decide +kernel
theorem dX5_kinds_110 : decode cX5_kinds 110 = .ok (.iload_n 3, 1) := by decide +kernel
theorem dX5_kinds_111 : decode cX5_kinds 111 = .ok (.if_icmp .lt 12, 3) := by decide +kernel
theorem dX5_kinds_114 : decode cX5_kinds 114 = .ok (.aload 6, 2) := by decide +kernel
theorem dX5_kinds_116 : decode cX5_kinds 116 = .ok (.getfield 71, 3) := by decide +kernel
theorem dX5_kinds_119 : decode cX5_kinds 119 = .ok (.iload_n 3, 1) := by decide +kernel
theorem dX5_kinds_120 : decode cX5_kinds 120 = .ok (.if_icmp .ge 10, 3) := by decide +kernel
theorem dX5_kinds_123 : decode cX5_kinds 123 = .ok (.aload_n 0, 1) := by decide +kernel
theorem dX5_kinds_124 : decode cX5_kinds 124 = .ok (.bipush (-2), 2) := by decide +kernel
theorem dX5_kinds_126 : decode cX5_kinds 126 = .ok (.invokevirtual 59, 3) := by decide +kernel
theorem dX5_kinds_129 : decode cX5_kinds 129 = .ok (.ireturn, 1) := by decide +kernel
theorem dX5_kinds_130 : decode cX5_kinds 130 = .ok (.aload_n 0, 1) := by decide +kernel
theorem dX5_kinds_131 : decode cX5_kinds 131 = .ok (.getfield 10, 3) := by decide +kernel
theorem dX5_kinds_134 : decode cX5_kinds 134 = .ok (.aload_n 0, 1) := by decide +kernel
theorem dX5_kinds_135 : decode cX5_kinds 135 = .ok (.getfield 10, 3) := by decide +kernel
theorem dX5_kinds_138 : decode cX5_kinds 138 = .ok (.getfield 118, 3) := by decide +kernel
theorem dX5_kinds_141 : decode cX5_kinds 141 = .ok (.iload 4, 2) := by decide +kernel
theorem dX5_kinds_143 : decode cX5_kinds 143 = .ok (.invokevirtual 307, 3) := by decide +kernel
theorem dX5_kinds_146 : decode cX5_kinds 146 = .ok (.ifCond .ne 23, 3) := by decide +kernel
theorem dX5_kinds_149 : decode cX5_kinds 149 = .ok (.aload_n 0, 1) := by decide +kernel
theorem dX5_kinds_150 : decode cX5_kinds 150 = .ok (.aload 5, 2) := by decide +kernel
theorem dX5_kinds_152 : decode cX5_kinds 152 = .ok (.iload_n 3, 1) := by decide +kernel
theorem dX5_kinds_153 : decode cX5_kinds 153 = .ok (.invokevirtual 313, 3) := by decide +kernel
theorem dX5_kinds_156 : decode cX5_kinds 156 = .ok (.ifCond .eq 13, 3) := by decide +kernel
theorem dX5_kinds_159 : decode cX5_kinds 159 = .ok (.aload_n 0, 1) := by decide +kernel
theorem dX5_kinds_160 : decode cX5_kinds 160 = .ok (.aload 6, 2) := by decide +kernel
theorem dX5_kinds_162 : decode cX5_kinds 162 = .ok (.iload_n 3, 1) := by decide +kernel
theorem dX5_kinds_163 : decode cX5_kinds 163 = .ok (.invokevirtual 313, 3) := by decide +kernel
theorem dX5_kinds_166 : decode cX5_kinds 166 = .ok (.ifCond .ne 10, 3) := by decide +kernel
theorem dX5_kinds_169 : decode cX5_kinds 169 = .ok (.aload_n 0, 1) := by decide +kernel
theorem dX5_kinds_170 : decode cX5_kinds 170 = .ok (.bipush (-5), 2) := by decide +kernel
theorem dX5_kinds_172 : decode cX5_kinds 172 = .ok (.invokevirtual 59, 3) := by decide +kernel
theorem dX5_kinds_175 : decode cX5_kinds 175 = .ok (.ireturn, 1) := by decide +kernel
theorem dX5_kinds_176 : decode cX5_kinds 176 = .ok (.iconst 0, 1) := by decide +kernel
theorem dX5_kinds_177 : decode cX5_kinds 177 = .ok (.istore 7, 2) := by decide +kernel
theorem dX5_kinds_179 : decode cX5_kinds 179 = .ok (.iconst 0, 1) := by decide +kernel
theorem dX5_kinds_180 : decode cX5_kinds 180 = .ok (.istore 8, 2) := by decide +kernel
theorem dX5_kinds_182 : decode cX5_kinds 182 = .ok (.iload 8, 2) := by decide +kernel
theorem dX5_kinds_184 : decode cX5_kinds 184 = .ok (.bipush 6, 2) := by decide +kernel
theorem dX5_kinds_186 : decode cX5_kinds 186 = .ok (.if_icmp .ge 34, 3) := by decide +kernel
theorem dX5_kinds_189 : decode cX5_kinds 189 = .ok (.aload_n 0, 1) := by decide +kernel
theorem dX5_kinds_190 : decode cX5_kinds 190 = .ok (.iload 4, 2) := by decide +kernel
theorem dX5_kinds_192 : decode cX5_kinds 192 = .ok (.iload 8, 2) := by decide +kernel
theorem dX5_kinds_194 : decode cX5_kinds 194 = .ok (.aload 5, 2) := by decide +kernel
theorem dX5_kinds_196 : decode cX5_kinds 196 = .ok (.aload 6, 2) := by decide +kernel
theorem dX5_kinds_198 : decode cX5_kinds 198 = .ok (.iload_n 3, 1) := by decide +kernel
theorem dX5_kinds_199 : decode cX5_kinds 199 = .ok (.invokevirtual 317, 3) := by decide +kernel
theorem dX5_kinds_202 : decode cX5_kinds 202 = .ok (.ifCond .eq 12, 3) := by decide +kernel
theorem dX5_kinds_205 : decode cX5_kinds 205 = .ok (.iload 7, 2) := by decide +kernel
theorem dX5_kinds_207 : decode cX5_kinds 207 = .ok (.iconst 1, 1) := by decide +kernel
theorem dX5_kinds_208 : decode cX5_kinds 208 = .ok (.iload 8, 2) := by decide +kernel
theorem dX5_kinds_210 : decode cX5_kinds 210 = .ok (.ishl, 1) := by decide +kernel
theorem dX5_kinds_211 : decode cX5_kinds 211 = .ok (.ior, 1) := by decide +kernel
theorem dX5_kinds_212 : decode cX5_kinds 212 = .ok (.istore 7, 2) := by decide +kernel
theorem dX5_kinds_214 : decode cX5_kinds 214 = .ok (.iinc 8 1, 3) := by decide +kernel
theorem dX5_kinds_217 : decode cX5_kinds 217 = .ok (.goto (-35), 3) := by decide +kernel
theorem dX5_kinds_220 : decode cX5_kinds 220 = .ok (.iload 7, 2) := by decide +kernel
theorem dX5_kinds_222 : decode cX5_kinds 222 = .ok (.ireturn, 1) := by decide +kernel
theorem dX5_judge_0 : decode cX5_judge 0 = .ok (.aload_n 0, 1) := by decide +kernel
theorem dX5_judge_1 : decode cX5_judge 1 = .ok (.iload_n 1, 1) := by decide +kernel
theorem dX5_judge_2 : decode cX5_judge 2 = .ok (.iload_n 2, 1) := by decide +kernel
theorem dX5_judge_3 : decode cX5_judge 3 = .ok (.bipush 40, 2) := by decide +kernel
theorem dX5_judge_5 : decode cX5_judge 5 = .ok (.invokevirtual 67, 3) := by decide +kernel
theorem dX5_judge_8 : decode cX5_judge 8 = .ok (.istore_n 3, 1) := by decide +kernel
theorem dX5_judge_9 : decode cX5_judge 9 = .ok (.iload_n 3, 1) := by decide +kernel
theorem dX5_judge_10 : decode cX5_judge 10 = .ok (.ifCond .eq 9, 3) := by decide +kernel
theorem dX5_judge_13 : decode cX5_judge 13 = .ok (.aload_n 0, 1) := by decide +kernel
theorem dX5_judge_14 : decode cX5_judge 14 = .ok (.iload_n 3, 1) := by decide +kernel
theorem dX5_judge_15 : decode cX5_judge 15 = .ok (.invokevirtual 59, 3) := by decide +kernel
theorem dX5_judge_18 : decode cX5_judge 18 = .ok (.ireturn, 1) := by decide +kernel
theorem dX5_judge_19 : decode cX5_judge 19 = .ok (.aload_n 0, 1) := by decide +kernel
theorem dX5_judge_20 : decode cX5_judge 20 = .ok (.aload_n 0, 1) := by decide +kernel
theorem dX5_judge_21 : decode cX5_judge 21 = .ok (.getfield 32, 3) := by decide +kernel
theorem dX5_judge_24 : decode cX5_judge 24 = .ok (.iload_n 1, 1) := by decide +kernel
theorem dX5_judge_25 : decode cX5_judge 25 = .ok (.aaload, 1) := by decide +kernel
theorem dX5_judge_26 : decode cX5_judge 26 = .ok (.iload_n 2, 1) := by decide +kernel
theorem dX5_judge_27 : decode cX5_judge 27 = .ok (.invokevirtual 321, 3) := by decide +kernel
theorem dX5_judge_30 : decode cX5_judge 30 = .ok (.ireturn, 1) := by decide +kernel
theorem dX5_behind_0 : decode cX5_behind 0 = .ok (.iload_n 3, 1) := by decide +kernel
theorem dX5_behind_1 : decode cX5_behind 1 = .ok (.bipush 10, 2) := by decide +kernel
theorem dX5_behind_3 : decode cX5_behind 3 = .ok (.if_icmp .lt 27, 3) := by decide +kernel
theorem dX5_behind_6 : decode cX5_behind 6 = .ok (.iload_n 3, 1) := by decide +kernel
theorem dX5_behind_7 : decode cX5_behind 7 = .ok (.bipush 15, 2) := by decide +kernel
theorem dX5_behind_9 : decode cX5_behind 9 = .ok (.if_icmp .ge 21, 3) := by decide +kernel
theorem dX5_behind_12 : decode cX5_behind 12 = .ok (.aload_n 0, 1) := by decide +kernel
theorem dX5_behind_13 : decode cX5_behind 13 = .ok (.getfield 10, 3) := by decide +kernel
theorem dX5_behind_16 : decode cX5_behind 16 = .ok (.iload_n 3, 1) := by decide +kernel
theorem dX5_behind_17 : decode cX5_behind 17 = .ok (.bipush 10, 2) := by decide +kernel
theorem dX5_behind_19 : decode cX5_behind 19 = .ok (.isub, 1) := by decide +kernel
theorem dX5_behind_20 : decode cX5_behind 20 = .ok (.invokevirtual 103, 3) := by decide +kernel
theorem dX5_behind_23 : decode cX5_behind 23 = .ok (.ifCond .eq 7, 3) := by decide +kernel
theorem dX5_behind_26 : decode cX5_behind 26 = .ok (.iconst 1, 1) := by decide +kernel
theorem dX5_behind_27 : decode cX5_behind 27 = .ok (.goto 4, 3) := by decide +kernel
theorem dX5_behind_30 : decode cX5_behind 30 = .ok (.iconst 0, 1) := by decide +kernel
theorem dX5_behind_31 : decode cX5_behind 31 = .ok (.istore 4, 2) := by decide +kernel
theorem dX5_behind_33 : decode cX5_behind 33 = .ok (.iload 4, 2) := by decide +kernel
theorem dX5_behind_35 : decode cX5_behind 35 = .ok (.ifCond .ne 19, 3) := by decide +kernel
theorem dX5_behind_38 : decode cX5_behind 38 = .ok (.iload_n 3, 1) := by decide +kernel
theorem dX5_behind_39 : decode cX5_behind 39 = .ok (.ifCond .lt 8, 3) := by decide +kernel
theorem dX5_behind_42 : decode cX5_behind 42 = .ok (.iload_n 3, 1) := by decide +kernel
theorem dX5_behind_43 : decode cX5_behind 43 = .ok (.iconst 2, 1) := by decide +kernel
theorem dX5_behind_44 : decode cX5_behind 44 = .ok (.if_icmp .le 10, 3) := by decide +kernel
theorem dX5_behind_47 : decode cX5_behind 47 = .ok (.aload_n 0, 1) := by decide +kernel
theorem dX5_behind_48 : decode cX5_behind 48 = .ok (.bipush (-2), 2) := by decide +kernel
theorem dX5_behind_50 : decode cX5_behind 50 = .ok (.invokevirtual 59, 3) := by decide +kernel
theorem dX5_behind_53 : decode cX5_behind 53 = .ok (.ireturn, 1) := by decide +kernel
theorem dX5_behind_54 : decode cX5_behind 54 = .ok (.aload_n 0, 1) := by decide +kernel
theorem dX5_behind_55 : decode cX5_behind 55 = .ok (.iload_n 1, 1) := by decide +kernel
theorem dX5_behind_56 : decode cX5_behind 56 = .ok (.iload_n 2, 1) := by decide +kernel
theorem dX5_behind_57 : decode cX5_behind 57 = .ok (.invokevirtual 325, 3) := by decide +kernel
theorem dX5_behind_60 : decode cX5_behind 60 = .ok (.istore 5, 2) := by decide +kernel
theorem dX5_behind_62 : decode cX5_behind 62 = .ok (.iload 5, 2) := by decide +kernel
theorem dX5_behind_64 : decode cX5_behind 64 = .ok (.ifCond .eq 10, 3) := by decide +kernel
theorem dX5_behind_67 : decode cX5_behind 67 = .ok (.aload_n 0, 1) := by decide +kernel
theorem dX5_behind_68 : decode cX5_behind 68 = .ok (.iload 5, 2) := by decide +kernel
theorem dX5_behind_70 : decode cX5_behind 70 = .ok (.invokevirtual 59, 3) := by decide +kernel
theorem dX5_behind_73 : decode cX5_behind 73 = .ok (.ireturn, 1) := by decide +kernel
theorem dX5_behind_74 : decode cX5_behind 74 = .ok (.aload_n 0, 1) := by decide +kernel
theorem dX5_behind_75 : decode cX5_behind 75 = .ok (.getfield 44, 3) := by decide +kernel
theorem dX5_behind_78 : decode cX5_behind 78 = .ok (.aload_n 0, 1) := by decide +kernel
theorem dX5_behind_79 : decode cX5_behind 79 = .ok (.getfield 10, 3) := by decide +kernel
theorem dX5_behind_82 : decode cX5_behind 82 = .ok (.getfield 118, 3) := by decide +kernel
theorem dX5_behind_85 : decode cX5_behind 85 = .ok (.invokevirtual 191, 3) := by decide +kernel
theorem dX5_behind_88 : decode cX5_behind 88 = .ok (.aload_n 0, 1) := by decide +kernel
theorem dX5_behind_89 : decode cX5_behind 89 = .ok (.aload_n 0, 1) := by decide +kernel
theorem dX5_behind_90 : decode cX5_behind 90 = .ok (.getfield 44, 3) := by decide +kernel
theorem dX5_behind_93 : decode cX5_behind 93 = .ok (.aload_n 0, 1) := by decide +kernel
theorem dX5_behind_94 : decode cX5_behind 94 = .ok (.getfield 32, 3) := by decide +kernel
theorem dX5_behind_97 : decode cX5_behind 97 = .ok (.iload_n 1, 1) := by decide +kernel
theorem dX5_behind_98 : decode cX5_behind 98 = .ok (.aaload, 1) := by decide +kernel
theorem dX5_behind_99 : decode cX5_behind 99 = .ok (.iload_n 2, 1) := by decide +kernel
theorem dX5_behind_100 : decode cX5_behind 100 = .ok (.invokevirtual 231, 3) := by decide +kernel
theorem dX5_behind_103 : decode cX5_behind 103 = .ok (.iload_n 3, 1) := by decide +kernel
theorem dX5_behind_104 : decode cX5_behind 104 = .ok (.tableswitch 60 0 2 #[28, 40, 48], 28) := by decide +kernel
theorem dX5_behind_132 : decode cX5_behind 132 = .ok (.aload_n 0, 1) := by decide +kernel
theorem dX5_behind_133 : decode cX5_behind 133 = .ok (.getfield 10, 3) := by decide +kernel
theorem dX5_behind_136 : decode cX5_behind 136 = .ok (.aload_n 0, 1) := by decide +kernel
theorem dX5_behind_137 : decode cX5_behind 137 = .ok (.getfield 44, 3) := by decide +kernel
theorem dX5_behind_140 : decode cX5_behind 140 = .ok (.invokevirtual 235, 3) := by decide +kernel
theorem dX5_behind_143 : decode cX5_behind 143 = .ok (.ireturn, 1) := by decide +kernel
theorem dX5_behind_144 : decode cX5_behind 144 = .ok (.aload_n 0, 1) := by decide +kernel
theorem dX5_behind_145 : decode cX5_behind 145 = .ok (.getfield 44, 3) := by decide +kernel
theorem dX5_behind_148 : decode cX5_behind 148 = .ok (.getfield 150, 3) := by decide +kernel
theorem dX5_behind_151 : decode cX5_behind 151 = .ok (.ireturn, 1) := by decide +kernel
theorem dX5_behind_152 : decode cX5_behind 152 = .ok (.aload_n 0, 1) := by decide +kernel
theorem dX5_behind_153 : decode cX5_behind 153 = .ok (.getfield 10, 3) := by decide +kernel
theorem dX5_behind_156 : decode cX5_behind 156 = .ok (.aload_n 0, 1) := by decide +kernel
theorem dX5_behind_157 : decode cX5_behind 157 = .ok (.getfield 44, 3) := by decide +kernel
theorem dX5_behind_160 : decode cX5_behind 160 = .ok (.invokevirtual 261, 3) := by decide +kernel
theorem dX5_behind_163 : decode cX5_behind 163 = .ok (.ireturn, 1) := by decide +kernel
theorem dX5_behind_164 : decode cX5_behind 164 = .ok (.iload 4, 2) := by decide +kernel
theorem dX5_behind_166 : decode cX5_behind 166 = .ok (.ifCond .eq 18, 3) := by decide +kernel
theorem dX5_behind_169 : decode cX5_behind 169 = .ok (.aload_n 0, 1) := by decide +kernel
theorem dX5_behind_170 : decode cX5_behind 170 = .ok (.getfield 44, 3) := by decide +kernel
theorem dX5_behind_173 : decode cX5_behind 173 = .ok (.getfield 162, 3) := by decide +kernel
theorem dX5_behind_176 : decode cX5_behind 176 = .ok (.iload_n 3, 1) := by decide +kernel
theorem dX5_behind_177 : decode cX5_behind 177 = .ok (.bipush 10, 2) := by decide +kernel
theorem dX5_behind_179 : decode cX5_behind 179 = .ok (.isub, 1) := by decide +kernel
theorem dX5_behind_180 : decode cX5_behind 180 = .ok (.iaload, 1) := by decide +kernel
theorem dX5_behind_181 : decode cX5_behind 181 = .ok (.goto 4, 3) := by decide +kernel
theorem dX5_behind_184 : decode cX5_behind 184 = .ok (.iconst (-1), 1) := by decide +kernel
theorem dX5_behind_185 : decode cX5_behind 185 = .ok (.ireturn, 1) := by decide +kernel
theorem dX5_done_0 : decode cX5_done 0 = .ok (.aload_n 0, 1) := by decide +kernel
theorem dX5_done_1 : decode cX5_done 1 = .ok (.iload_n 1, 1) := by decide +kernel
theorem dX5_done_2 : decode cX5_done 2 = .ok (.iload_n 2, 1) := by decide +kernel
theorem dX5_done_3 : decode cX5_done 3 = .ok (.invokevirtual 325, 3) := by decide +kernel
theorem dX5_done_6 : decode cX5_done 6 = .ok (.istore_n 3, 1) := by decide +kernel
theorem dX5_done_7 : decode cX5_done 7 = .ok (.iload_n 3, 1) := by decide +kernel
theorem dX5_done_8 : decode cX5_done 8 = .ok (.ifCond .eq 9, 3) := by decide +kernel
theorem dX5_done_11 : decode cX5_done 11 = .ok (.aload_n 0, 1) := by decide +kernel
theorem dX5_done_12 : decode cX5_done 12 = .ok (.iload_n 3, 1) := by decide +kernel
theorem dX5_done_13 : decode cX5_done 13 = .ok (.invokevirtual 59, 3) := by decide +kernel
theorem dX5_done_16 : decode cX5_done 16 = .ok (.ireturn, 1) := by decide +kernel
theorem dX5_done_17 : decode cX5_done 17 = .ok (.aload_n 0, 1) := by decide +kernel
theorem dX5_done_18 : decode cX5_done 18 = .ok (.aload_n 0, 1) := by decide +kernel
theorem dX5_done_19 : decode cX5_done 19 = .ok (.getfield 10, 3) := by decide +kernel
theorem dX5_done_22 : decode cX5_done 22 = .ok (.getfield 118, 3) := by decide +kernel
theorem dX5_done_25 : decode cX5_done 25 = .ok (.aload_n 0, 1) := by decide +kernel
theorem dX5_done_26 : decode cX5_done 26 = .ok (.getfield 32, 3) := by decide +kernel
theorem dX5_done_29 : decode cX5_done 29 = .ok (.iload_n 1, 1) := by decide +kernel
theorem dX5_done_30 : decode cX5_done 30 = .ok (.aaload, 1) := by decide +kernel
theorem dX5_done_31 : decode cX5_done 31 = .ok (.iload_n 2, 1) := by decide +kernel
theorem dX5_done_32 : decode cX5_done 32 = .ok (.invokevirtual 231, 3) := by decide +kernel
theorem dX5_done_35 : decode cX5_done 35 = .ok (.aload_n 0, 1) := by decide +kernel
theorem dX5_done_36 : decode cX5_done 36 = .ok (.getfield 10, 3) := by decide +kernel
theorem dX5_done_39 : decode cX5_done 39 = .ok (.dup, 1) := by decide +kernel
theorem dX5_done_40 : decode cX5_done 40 = .ok (.getfield 328, 3) := by decide +kernel
theorem dX5_done_43 : decode cX5_done 43 = .ok (.iload_n 2, 1) := by decide +kernel
theorem dX5_done_44 : decode cX5_done 44 = .ok (.iadd, 1) := by decide +kernel
theorem dX5_done_45 : decode cX5_done 45 = .ok (.putfield 328, 3) := by decide +kernel
theorem dX5_done_48 : decode cX5_done 48 = .ok (.aload_n 0, 1) := by decide +kernel
theorem dX5_done_49 : decode cX5_done 49 = .ok (.getfield 10, 3) := by decide +kernel
theorem dX5_done_52 : decode cX5_done 52 = .ok (.aload_n 0, 1) := by decide +kernel
theorem dX5_done_53 : decode cX5_done 53 = .ok (.getfield 10, 3) := by decide +kernel
theorem dX5_done_56 : decode cX5_done 56 = .ok (.getfield 118, 3) := by decide +kernel
theorem dX5_done_59 : decode cX5_done 59 = .ok (.invokevirtual 235, 3) := by decide +kernel
theorem dX5_done_62 : decode cX5_done 62 = .ok (.ireturn, 1) := by decide +kernel
theorem dX5_turn_0 : decode cX5_turn 0 = .ok (.iload_n 1, 1) := by decide +kernel
theorem dX5_turn_1 : decode cX5_turn 1 = .ok (.i2l, 1) := by decide +kernel
theorem dX5_turn_2 : decode cX5_turn 2 = .ok (.invokestatic 331, 3) := by decide +kernel
theorem dX5_turn_5 : decode cX5_turn 5 = .ok (.ifCond .ne 10, 3) := by decide +kernel
theorem dX5_turn_8 : decode cX5_turn 8 = .ok (.aload_n 0, 1) := by decide +kernel
theorem dX5_turn_9 : decode cX5_turn 9 = .ok (.bipush (-2), 2) := by decide +kernel
theorem dX5_turn_11 : decode cX5_turn 11 = .ok (.invokevirtual 59, 3) := by decide +kernel
theorem dX5_turn_14 : decode cX5_turn 14 = .ok (.ireturn, 1) := by decide +kernel
theorem dX5_turn_15 : decode cX5_turn 15 = .ok (.aload_n 0, 1) := by decide +kernel
theorem dX5_turn_16 : decode cX5_turn 16 = .ok (.getfield 10, 3) := by decide +kernel
theorem dX5_turn_19 : decode cX5_turn 19 = .ok (.aload_n 0, 1) := by decide +kernel
theorem dX5_turn_20 : decode cX5_turn 20 = .ok (.getfield 10, 3) := by decide +kernel
theorem dX5_turn_23 : decode cX5_turn 23 = .ok (.getfield 118, 3) := by decide +kernel
theorem dX5_turn_26 : decode cX5_turn 26 = .ok (.getfield 150, 3) := by decide +kernel
theorem dX5_turn_29 : decode cX5_turn 29 = .ok (.iload_n 1, 1) := by decide +kernel
theorem dX5_turn_30 : decode cX5_turn 30 = .ok (.invokevirtual 310, 3) := by decide +kernel
theorem dX5_turn_33 : decode cX5_turn 33 = .ok (.ifCond .ne 10, 3) := by decide +kernel
theorem dX5_turn_36 : decode cX5_turn 36 = .ok (.aload_n 0, 1) := by decide +kernel
theorem dX5_turn_37 : decode cX5_turn 37 = .ok (.bipush (-5), 2) := by decide +kernel
theorem dX5_turn_39 : decode cX5_turn 39 = .ok (.invokevirtual 59, 3) := by decide +kernel
theorem dX5_turn_42 : decode cX5_turn 42 = .ok (.ireturn, 1) := by decide +kernel
theorem dX5_turn_43 : decode cX5_turn 43 = .ok (.aload_n 0, 1) := by decide +kernel
theorem dX5_turn_44 : decode cX5_turn 44 = .ok (.getfield 10, 3) := by decide +kernel
theorem dX5_turn_47 : decode cX5_turn 47 = .ok (.aload_n 0, 1) := by decide +kernel
theorem dX5_turn_48 : decode cX5_turn 48 = .ok (.getfield 10, 3) := by decide +kernel
theorem dX5_turn_51 : decode cX5_turn 51 = .ok (.getfield 118, 3) := by decide +kernel
theorem dX5_turn_54 : decode cX5_turn 54 = .ok (.iload_n 1, 1) := by decide +kernel
theorem dX5_turn_55 : decode cX5_turn 55 = .ok (.invokevirtual 211, 3) := by decide +kernel
theorem dX5_turn_58 : decode cX5_turn 58 = .ok (.aload_n 0, 1) := by decide +kernel
theorem dX5_turn_59 : decode cX5_turn 59 = .ok (.getfield 10, 3) := by decide +kernel
theorem dX5_turn_62 : decode cX5_turn 62 = .ok (.dup, 1) := by decide +kernel
theorem dX5_turn_63 : decode cX5_turn 63 = .ok (.getfield 328, 3) := by decide +kernel
theorem dX5_turn_66 : decode cX5_turn 66 = .ok (.iconst 1, 1) := by decide +kernel
theorem dX5_turn_67 : decode cX5_turn 67 = .ok (.iadd, 1) := by decide +kernel
theorem dX5_turn_68 : decode cX5_turn 68 = .ok (.putfield 328, 3) := by decide +kernel
theorem dX5_turn_71 : decode cX5_turn 71 = .ok (.aload_n 0, 1) := by decide +kernel
theorem dX5_turn_72 : decode cX5_turn 72 = .ok (.getfield 10, 3) := by decide +kernel
theorem dX5_turn_75 : decode cX5_turn 75 = .ok (.aload_n 0, 1) := by decide +kernel
theorem dX5_turn_76 : decode cX5_turn 76 = .ok (.getfield 10, 3) := by decide +kernel
theorem dX5_turn_79 : decode cX5_turn 79 = .ok (.getfield 118, 3) := by decide +kernel
theorem dX5_turn_82 : decode cX5_turn 82 = .ok (.invokevirtual 235, 3) := by decide +kernel
theorem dX5_turn_85 : decode cX5_turn 85 = .ok (.ireturn, 1) := by decide +kernel
theorem dX5_evening_0 : decode cX5_evening 0 = .ok (.iload_n 1, 1) := by decide +kernel
theorem dX5_evening_1 : decode cX5_evening 1 = .ok (.iconst 1, 1) := by decide +kernel
theorem dX5_evening_2 : decode cX5_evening 2 = .ok (.if_icmp .lt 9, 3) := by decide +kernel
theorem dX5_evening_5 : decode cX5_evening 5 = .ok (.iload_n 1, 1) := by decide +kernel
theorem dX5_evening_6 : decode cX5_evening 6 = .ok (.bipush 60, 2) := by decide +kernel
theorem dX5_evening_8 : decode cX5_evening 8 = .ok (.if_icmp .le 10, 3) := by decide +kernel
theorem dX5_evening_11 : decode cX5_evening 11 = .ok (.aload_n 0, 1) := by decide +kernel
theorem dX5_evening_12 : decode cX5_evening 12 = .ok (.bipush (-2), 2) := by decide +kernel
theorem dX5_evening_14 : decode cX5_evening 14 = .ok (.invokevirtual 59, 3) := by decide +kernel
theorem dX5_evening_17 : decode cX5_evening 17 = .ok (.ireturn, 1) := by decide +kernel
theorem dX5_evening_18 : decode cX5_evening 18 = .ok (.aload_n 0, 1) := by decide +kernel
theorem dX5_evening_19 : decode cX5_evening 19 = .ok (.getfield 10, 3) := by decide +kernel
theorem dX5_evening_22 : decode cX5_evening 22 = .ok (.aload_n 0, 1) := by decide +kernel
theorem dX5_evening_23 : decode cX5_evening 23 = .ok (.getfield 10, 3) := by decide +kernel
theorem dX5_evening_26 : decode cX5_evening 26 = .ok (.getfield 118, 3) := by decide +kernel
theorem dX5_evening_29 : decode cX5_evening 29 = .ok (.invokevirtual 235, 3) := by decide +kernel
theorem dX5_evening_32 : decode cX5_evening 32 = .ok (.istore_n 2, 1) := by decide +kernel
theorem dX5_evening_33 : decode cX5_evening 33 = .ok (.iconst 0, 1) := by decide +kernel
theorem dX5_evening_34 : decode cX5_evening 34 = .ok (.istore_n 3, 1) := by decide +kernel
theorem dX5_evening_35 : decode cX5_evening 35 = .ok (.iload_n 3, 1) := by decide +kernel
theorem dX5_evening_36 : decode cX5_evening 36 = .ok (.iload_n 1, 1) := by decide +kernel
theorem dX5_evening_37 : decode cX5_evening 37 = .ok (.if_icmp .ge 92, 3) := by decide +kernel
theorem dX5_evening_40 : decode cX5_evening 40 = .ok (.aload_n 0, 1) := by decide +kernel
theorem dX5_evening_41 : decode cX5_evening 41 = .ok (.getfield 10, 3) := by decide +kernel
theorem dX5_evening_44 : decode cX5_evening 44 = .ok (.iconst 5, 1) := by decide +kernel
theorem dX5_evening_45 : decode cX5_evening 45 = .ok (.invokevirtual 335, 3) := by decide +kernel
theorem dX5_evening_48 : decode cX5_evening 48 = .ok (.istore 4, 2) := by decide +kernel
theorem dX5_evening_50 : decode cX5_evening 50 = .ok (.aload_n 0, 1) := by decide +kernel
theorem dX5_evening_51 : decode cX5_evening 51 = .ok (.getfield 10, 3) := by decide +kernel
theorem dX5_evening_54 : decode cX5_evening 54 = .ok (.bipush 12, 2) := by decide +kernel
theorem dX5_evening_56 : decode cX5_evening 56 = .ok (.invokevirtual 335, 3) := by decide +kernel
theorem dX5_evening_59 : decode cX5_evening 59 = .ok (.aload_n 0, 1) := by decide +kernel
theorem dX5_evening_60 : decode cX5_evening 60 = .ok (.getfield 10, 3) := by decide +kernel
theorem dX5_evening_63 : decode cX5_evening 63 = .ok (.getfield 165, 3) := by decide +kernel
theorem dX5_evening_66 : decode cX5_evening 66 = .ok (.if_icmp .lt 7, 3) := by decide +kernel
theorem dX5_evening_69 : decode cX5_evening 69 = .ok (.iconst 1, 1) := by decide +kernel
theorem dX5_evening_70 : decode cX5_evening 70 = .ok (.goto 4, 3) := by decide +kernel
theorem dX5_evening_73 : decode cX5_evening 73 = .ok (.iconst 0, 1) := by decide +kernel
theorem dX5_evening_74 : decode cX5_evening 74 = .ok (.istore 5, 2) := by decide +kernel
theorem dX5_evening_76 : decode cX5_evening 76 = .ok (.aload_n 0, 1) := by decide +kernel
theorem dX5_evening_77 : decode cX5_evening 77 = .ok (.getfield 10, 3) := by decide +kernel
theorem dX5_evening_80 : decode cX5_evening 80 = .ok (.aload_n 0, 1) := by decide +kernel
theorem dX5_evening_81 : decode cX5_evening 81 = .ok (.getfield 10, 3) := by decide +kernel
theorem dX5_evening_84 : decode cX5_evening 84 = .ok (.getfield 118, 3) := by decide +kernel
theorem dX5_evening_87 : decode cX5_evening 87 = .ok (.iload 5, 2) := by decide +kernel
theorem dX5_evening_89 : decode cX5_evening 89 = .ok (.ifCond .eq 8, 3) := by decide +kernel
theorem dX5_evening_92 : decode cX5_evening 92 = .ok (.iload 4, 2) := by decide +kernel
theorem dX5_evening_94 : decode cX5_evening 94 = .ok (.goto 13, 3) := by decide +kernel
theorem dX5_evening_97 : decode cX5_evening 97 = .ok (.aload_n 0, 1) := by decide +kernel
theorem dX5_evening_98 : decode cX5_evening 98 = .ok (.getfield 10, 3) := by decide +kernel
theorem dX5_evening_101 : decode cX5_evening 101 = .ok (.getfield 118, 3) := by decide +kernel
theorem dX5_evening_104 : decode cX5_evening 104 = .ok (.getfield 338, 3) := by decide +kernel
theorem dX5_evening_107 : decode cX5_evening 107 = .ok (.invokevirtual 211, 3) := by decide +kernel
theorem dX5_evening_110 : decode cX5_evening 110 = .ok (.aload_n 0, 1) := by decide +kernel
theorem dX5_evening_111 : decode cX5_evening 111 = .ok (.getfield 10, 3) := by decide +kernel
theorem dX5_evening_114 : decode cX5_evening 114 = .ok (.dup, 1) := by decide +kernel
theorem dX5_evening_115 : decode cX5_evening 115 = .ok (.getfield 328, 3) := by decide +kernel
theorem dX5_evening_118 : decode cX5_evening 118 = .ok (.iconst 1, 1) := by decide +kernel
theorem dX5_evening_119 : decode cX5_evening 119 = .ok (.iadd, 1) := by decide +kernel
theorem dX5_evening_120 : decode cX5_evening 120 = .ok (.putfield 328, 3) := by decide +kernel
theorem dX5_evening_123 : decode cX5_evening 123 = .ok (.iinc 3 1, 3) := by decide +kernel
theorem dX5_evening_126 : decode cX5_evening 126 = .ok (.goto (-91), 3) := by decide +kernel
theorem dX5_evening_129 : decode cX5_evening 129 = .ok (.aload_n 0, 1) := by decide +kernel
theorem dX5_evening_130 : decode cX5_evening 130 = .ok (.getfield 10, 3) := by decide +kernel
theorem dX5_evening_133 : decode cX5_evening 133 = .ok (.aload_n 0, 1) := by decide +kernel
theorem dX5_evening_134 : decode cX5_evening 134 = .ok (.getfield 10, 3) := by decide +kernel
theorem dX5_evening_137 : decode cX5_evening 137 = .ok (.getfield 118, 3) := by decide +kernel
theorem dX5_evening_140 : decode cX5_evening 140 = .ok (.invokevirtual 235, 3) := by decide +kernel
theorem dX5_evening_143 : decode cX5_evening 143 = .ok (.iload_n 2, 1) := by decide +kernel
theorem dX5_evening_144 : decode cX5_evening 144 = .ok (.isub, 1) := by decide +kernel
theorem dX5_evening_145 : decode cX5_evening 145 = .ok (.ireturn, 1) := by decide +kernel
theorem dX5_seed_0 : decode cX5_seed 0 = .ok (.aload_n 0, 1) := by decide +kernel
theorem dX5_seed_1 : decode cX5_seed 1 = .ok (.getfield 10, 3) := by decide +kernel
theorem dX5_seed_4 : decode cX5_seed 4 = .ok (.getfield 341, 3) := by decide +kernel
theorem dX5_seed_7 : decode cX5_seed 7 = .ok (.istore_n 2, 1) := by decide +kernel
theorem dX5_seed_8 : decode cX5_seed 8 = .ok (.aload_n 0, 1) := by decide +kernel
theorem dX5_seed_9 : decode cX5_seed 9 = .ok (.getfield 10, 3) := by decide +kernel
theorem dX5_seed_12 : decode cX5_seed 12 = .ok (.iload_n 1, 1) := by decide +kernel
theorem dX5_seed_13 : decode cX5_seed 13 = .ok (.putfield 341, 3) := by decide +kernel
theorem dX5_seed_16 : decode cX5_seed 16 = .ok (.iload_n 2, 1) := by decide +kernel
theorem dX5_seed_17 : decode cX5_seed 17 = .ok (.ireturn, 1) := by decide +kernel
theorem dX5_image_0 : decode cX5_image 0 = .ok (.aload_n 0, 1) := by decide +kernel
theorem dX5_image_1 : decode cX5_image 1 = .ok (.getfield 16, 3) := by decide +kernel
theorem dX5_image_4 : decode cX5_image 4 = .ok (.aload_n 0, 1) := by decide +kernel
theorem dX5_image_5 : decode cX5_image 5 = .ok (.getfield 10, 3) := by decide +kernel
theorem dX5_image_8 : decode cX5_image 8 = .ok (.invokevirtual 179, 3) := by decide +kernel
theorem dX5_image_11 : decode cX5_image 11 = .ok (.aload_n 0, 1) := by decide +kernel
theorem dX5_image_12 : decode cX5_image 12 = .ok (.iconst 1, 1) := by decide +kernel
theorem dX5_image_13 : decode cX5_image 13 = .ok (.putfield 19, 3) := by decide +kernel
theorem dX5_image_16 : decode cX5_image 16 = .ok (.iconst 1, 1) := by decide +kernel
theorem dX5_image_17 : decode cX5_image 17 = .ok (.ireturn, 1) := by decide +kernel
theorem dX5_back_0 : decode cX5_back 0 = .ok (.aload_n 0, 1) := by decide +kernel
theorem dX5_back_1 : decode cX5_back 1 = .ok (.getfield 19, 3) := by decide +kernel
theorem dX5_back_4 : decode cX5_back 4 = .ok (.ifCond .ne 10, 3) := by decide +kernel
theorem dX5_back_7 : decode cX5_back 7 = .ok (.aload_n 0, 1) := by decide +kernel
theorem dX5_back_8 : decode cX5_back 8 = .ok (.bipush (-5), 2) := by decide +kernel
theorem dX5_back_10 : decode cX5_back 10 = .ok (.invokevirtual 59, 3) := by decide +kernel
theorem dX5_back_13 : decode cX5_back 13 = .ok (.ireturn, 1) := by decide +kernel
theorem dX5_back_14 : decode cX5_back 14 = .ok (.aload_n 0, 1) := by decide +kernel
theorem dX5_back_15 : decode cX5_back 15 = .ok (.getfield 10, 3) := by decide +kernel
theorem dX5_back_18 : decode cX5_back 18 = .ok (.aload_n 0, 1) := by decide +kernel
theorem dX5_back_19 : decode cX5_back 19 = .ok (.getfield 16, 3) := by decide +kernel
theorem dX5_back_22 : decode cX5_back 22 = .ok (.invokevirtual 179, 3) := by decide +kernel
theorem dX5_back_25 : decode cX5_back 25 = .ok (.iconst 0, 1) := by decide +kernel
theorem dX5_back_26 : decode cX5_back 26 = .ok (.istore_n 1, 1) := by decide +kernel
theorem dX5_back_27 : decode cX5_back 27 = .ok (.iload_n 1, 1) := by decide +kernel
theorem dX5_back_28 : decode cX5_back 28 = .ok (.bipush 8, 2) := by decide +kernel
theorem dX5_back_30 : decode cX5_back 30 = .ok (.if_icmp .ge 41, 3) := by decide +kernel
theorem dX5_back_33 : decode cX5_back 33 = .ok (.aload_n 0, 1) := by decide +kernel
theorem dX5_back_34 : decode cX5_back 34 = .ok (.getfield 32, 3) := by decide +kernel
theorem dX5_back_37 : decode cX5_back 37 = .ok (.iload_n 1, 1) := by decide +kernel
theorem dX5_back_38 : decode cX5_back 38 = .ok (.aaload, 1) := by decide +kernel
theorem dX5_back_39 : decode cX5_back 39 = .ok (.getfield 79, 3) := by decide +kernel
theorem dX5_back_42 : decode cX5_back 42 = .ok (.bipush 10, 2) := by decide +kernel
theorem dX5_back_44 : decode cX5_back 44 = .ok (.aload_n 0, 1) := by decide +kernel
theorem dX5_back_45 : decode cX5_back 45 = .ok (.getfield 10, 3) := by decide +kernel
theorem dX5_back_48 : decode cX5_back 48 = .ok (.getfield 156, 3) := by decide +kernel
theorem dX5_back_51 : decode cX5_back 51 = .ok (.iadd, 1) := by decide +kernel
theorem dX5_back_52 : decode cX5_back 52 = .ok (.if_icmp .lt 13, 3) := by decide +kernel
theorem dX5_back_55 : decode cX5_back 55 = .ok (.aload_n 0, 1) := by decide +kernel
theorem dX5_back_56 : decode cX5_back 56 = .ok (.getfield 32, 3) := by decide +kernel
theorem dX5_back_59 : decode cX5_back 59 = .ok (.iload_n 1, 1) := by decide +kernel
theorem dX5_back_60 : decode cX5_back 60 = .ok (.aaload, 1) := by decide +kernel
theorem dX5_back_61 : decode cX5_back 61 = .ok (.iconst (-1), 1) := by decide +kernel
theorem dX5_back_62 : decode cX5_back 62 = .ok (.putfield 79, 3) := by decide +kernel
theorem dX5_back_65 : decode cX5_back 65 = .ok (.iinc 1 1, 3) := by decide +kernel
theorem dX5_back_68 : decode cX5_back 68 = .ok (.goto (-41), 3) := by decide +kernel
theorem dX5_back_71 : decode cX5_back 71 = .ok (.iconst 1, 1) := by decide +kernel
theorem dX5_back_72 : decode cX5_back 72 = .ok (.ireturn, 1) := by decide +kernel
theorem dX5_status_0 : decode cX5_status 0 = .ok (.iload_n 1, 1) := by decide +kernel
theorem dX5_status_1 : decode cX5_status 1 = .ok (.tableswitch 172 0 11 #[63, 71, 79, 87, 98, 106, 114, 129, 140, 151, 159, 167], 63) := by decide +kernel
theorem dX5_status_64 : decode cX5_status 64 = .ok (.aload_n 0, 1) := by decide +kernel
theorem dX5_status_65 : decode cX5_status 65 = .ok (.getfield 10, 3) := by decide +kernel
theorem dX5_status_68 : decode cX5_status 68 = .ok (.getfield 156, 3) := by decide +kernel
theorem dX5_status_71 : decode cX5_status 71 = .ok (.ireturn, 1) := by decide +kernel
theorem dX5_status_72 : decode cX5_status 72 = .ok (.aload_n 0, 1) := by decide +kernel
theorem dX5_status_73 : decode cX5_status 73 = .ok (.getfield 10, 3) := by decide +kernel
theorem dX5_status_76 : decode cX5_status 76 = .ok (.getfield 125, 3) := by decide +kernel
theorem dX5_status_79 : decode cX5_status 79 = .ok (.ireturn, 1) := by decide +kernel
theorem dX5_status_80 : decode cX5_status 80 = .ok (.aload_n 0, 1) := by decide +kernel
theorem dX5_status_81 : decode cX5_status 81 = .ok (.getfield 10, 3) := by decide +kernel
theorem dX5_status_84 : decode cX5_status 84 = .ok (.getfield 144, 3) := by decide +kernel
theorem dX5_status_87 : decode cX5_status 87 = .ok (.ireturn, 1) := by decide +kernel
theorem dX5_status_88 : decode cX5_status 88 = .ok (.aload_n 0, 1) := by decide +kernel
theorem dX5_status_89 : decode cX5_status 89 = .ok (.getfield 10, 3) := by decide +kernel
theorem dX5_status_92 : decode cX5_status 92 = .ok (.getfield 118, 3) := by decide +kernel
theorem dX5_status_95 : decode cX5_status 95 = .ok (.getfield 150, 3) := by decide +kernel
theorem dX5_status_98 : decode cX5_status 98 = .ok (.ireturn, 1) := by decide +kernel
theorem dX5_status_99 : decode cX5_status 99 = .ok (.aload_n 0, 1) := by decide +kernel
theorem dX5_status_100 : decode cX5_status 100 = .ok (.getfield 10, 3) := by decide +kernel
theorem dX5_status_103 : decode cX5_status 103 = .ok (.getfield 165, 3) := by decide +kernel
theorem dX5_status_106 : decode cX5_status 106 = .ok (.ireturn, 1) := by decide +kernel
theorem dX5_status_107 : decode cX5_status 107 = .ok (.aload_n 0, 1) := by decide +kernel
theorem dX5_status_108 : decode cX5_status 108 = .ok (.getfield 10, 3) := by decide +kernel
theorem dX5_status_111 : decode cX5_status 111 = .ok (.getfield 328, 3) := by decide +kernel
theorem dX5_status_114 : decode cX5_status 114 = .ok (.ireturn, 1) := by decide +kernel
theorem dX5_status_115 : decode cX5_status 115 = .ok (.aload_n 0, 1) := by decide +kernel
theorem dX5_status_116 : decode cX5_status 116 = .ok (.getfield 10, 3) := by decide +kernel
theorem dX5_status_119 : decode cX5_status 119 = .ok (.aload_n 0, 1) := by decide +kernel
theorem dX5_status_120 : decode cX5_status 120 = .ok (.getfield 10, 3) := by decide +kernel
theorem dX5_status_123 : decode cX5_status 123 = .ok (.getfield 118, 3) := by decide +kernel
theorem dX5_status_126 : decode cX5_status 126 = .ok (.invokevirtual 235, 3) := by decide +kernel
theorem dX5_status_129 : decode cX5_status 129 = .ok (.ireturn, 1) := by decide +kernel
theorem dX5_status_130 : decode cX5_status 130 = .ok (.aload_n 0, 1) := by decide +kernel
theorem dX5_status_131 : decode cX5_status 131 = .ok (.getfield 10, 3) := by decide +kernel
theorem dX5_status_134 : decode cX5_status 134 = .ok (.getfield 238, 3) := by decide +kernel
theorem dX5_status_137 : decode cX5_status 137 = .ok (.invokestatic 284, 3) := by decide +kernel
theorem dX5_status_140 : decode cX5_status 140 = .ok (.ireturn, 1) := by decide +kernel
theorem dX5_status_141 : decode cX5_status 141 = .ok (.aload_n 0, 1) := by decide +kernel
theorem dX5_status_142 : decode cX5_status 142 = .ok (.getfield 10, 3) := by decide +kernel
theorem dX5_status_145 : decode cX5_status 145 = .ok (.getfield 118, 3) := by decide +kernel
theorem dX5_status_148 : decode cX5_status 148 = .ok (.getfield 338, 3) := by decide +kernel
theorem dX5_status_151 : decode cX5_status 151 = .ok (.ireturn, 1) := by decide +kernel
theorem dX5_status_152 : decode cX5_status 152 = .ok (.aload_n 0, 1) := by decide +kernel
theorem dX5_status_153 : decode cX5_status 153 = .ok (.getfield 26, 3) := by decide +kernel
theorem dX5_status_156 : decode cX5_status 156 = .ok (.getfield 168, 3) := by decide +kernel
theorem dX5_status_159 : decode cX5_status 159 = .ok (.ireturn, 1) := by decide +kernel
theorem dX5_status_160 : decode cX5_status 160 = .ok (.aload_n 0, 1) := by decide +kernel
theorem dX5_status_161 : decode cX5_status 161 = .ok (.getfield 10, 3) := by decide +kernel
theorem dX5_status_164 : decode cX5_status 164 = .ok (.getfield 341, 3) := by decide +kernel
theorem dX5_status_167 : decode cX5_status 167 = .ok (.ireturn, 1) := by decide +kernel
theorem dX5_status_168 : decode cX5_status 168 = .ok (.aload_n 0, 1) := by decide +kernel
theorem dX5_status_169 : decode cX5_status 169 = .ok (.invokevirtual 344, 3) := by decide +kernel
theorem dX5_status_172 : decode cX5_status 172 = .ok (.ireturn, 1) := by decide +kernel
theorem dX5_status_173 : decode cX5_status 173 = .ok (.iload_n 1, 1) := by decide +kernel
theorem dX5_status_174 : decode cX5_status 174 = .ok (.bipush 12, 2) := by decide +kernel
theorem dX5_status_176 : decode cX5_status 176 = .ok (.if_icmp .lt 21, 3) := by decide +kernel
theorem dX5_status_179 : decode cX5_status 179 = .ok (.iload_n 1, 1) := by decide +kernel
theorem dX5_status_180 : decode cX5_status 180 = .ok (.bipush 17, 2) := by decide +kernel
theorem dX5_status_182 : decode cX5_status 182 = .ok (.if_icmp .ge 15, 3) := by decide +kernel
theorem dX5_status_185 : decode cX5_status 185 = .ok (.aload_n 0, 1) := by decide +kernel
theorem dX5_status_186 : decode cX5_status 186 = .ok (.getfield 37, 3) := by decide +kernel
theorem dX5_status_189 : decode cX5_status 189 = .ok (.iload_n 1, 1) := by decide +kernel
theorem dX5_status_190 : decode cX5_status 190 = .ok (.bipush 12, 2) := by decide +kernel
theorem dX5_status_192 : decode cX5_status 192 = .ok (.isub, 1) := by decide +kernel
theorem dX5_status_193 : decode cX5_status 193 = .ok (.iaload, 1) := by decide +kernel
theorem dX5_status_194 : decode cX5_status 194 = .ok (.goto 4, 3) := by decide +kernel
theorem dX5_status_197 : decode cX5_status 197 = .ok (.iconst (-1), 1) := by decide +kernel
theorem dX5_status_198 : decode cX5_status 198 = .ok (.ireturn, 1) := by decide +kernel
theorem dX5_refuse_0 : decode cX5_refuse 0 = .ok (.bipush (-2), 2) := by decide +kernel
theorem dX5_refuse_2 : decode cX5_refuse 2 = .ok (.iload_n 1, 1) := by decide +kernel
theorem dX5_refuse_3 : decode cX5_refuse 3 = .ok (.isub, 1) := by decide +kernel
theorem dX5_refuse_4 : decode cX5_refuse 4 = .ok (.istore_n 2, 1) := by decide +kernel
theorem dX5_refuse_5 : decode cX5_refuse 5 = .ok (.iload_n 2, 1) := by decide +kernel
theorem dX5_refuse_6 : decode cX5_refuse 6 = .ok (.ifCond .lt 18, 3) := by decide +kernel
theorem dX5_refuse_9 : decode cX5_refuse 9 = .ok (.iload_n 2, 1) := by decide +kernel
theorem dX5_refuse_10 : decode cX5_refuse 10 = .ok (.iconst 5, 1) := by decide +kernel
theorem dX5_refuse_11 : decode cX5_refuse 11 = .ok (.if_icmp .ge 13, 3) := by decide +kernel
theorem dX5_refuse_14 : decode cX5_refuse 14 = .ok (.aload_n 0, 1) := by decide +kernel
theorem dX5_refuse_15 : decode cX5_refuse 15 = .ok (.getfield 37, 3) := by decide +kernel
theorem dX5_refuse_18 : decode cX5_refuse 18 = .ok (.iload_n 2, 1) := by decide +kernel
theorem dX5_refuse_19 : decode cX5_refuse 19 = .ok (.dup2, 1) := by decide +kernel
theorem dX5_refuse_20 : decode cX5_refuse 20 = .ok (.iaload, 1) := by decide +kernel
theorem dX5_refuse_21 : decode cX5_refuse 21 = .ok (.iconst 1, 1) := by decide +kernel
theorem dX5_refuse_22 : decode cX5_refuse 22 = .ok (.iadd, 1) := by decide +kernel
theorem dX5_refuse_23 : decode cX5_refuse 23 = .ok (.iastore, 1) := by decide +kernel
theorem dX5_refuse_24 : decode cX5_refuse 24 = .ok (.iload_n 1, 1) := by decide +kernel
theorem dX5_refuse_25 : decode cX5_refuse 25 = .ok (.ireturn, 1) := by decide +kernel
theorem dX5_isShelf_0 : decode cX5_isShelf 0 = .ok (.iload_n 0, 1) := by decide +kernel
theorem dX5_isShelf_1 : decode cX5_isShelf 1 = .ok (.ifCond .lt 13, 3) := by decide +kernel
theorem dX5_isShelf_4 : decode cX5_isShelf 4 = .ok (.iload_n 0, 1) := by decide +kernel
theorem dX5_isShelf_5 : decode cX5_isShelf 5 = .ok (.bipush 8, 2) := by decide +kernel
theorem dX5_isShelf_7 : decode cX5_isShelf 7 = .ok (.if_icmp .ge 7, 3) := by decide +kernel
theorem dX5_isShelf_10 : decode cX5_isShelf 10 = .ok (.iconst 1, 1) := by decide +kernel
theorem dX5_isShelf_11 : decode cX5_isShelf 11 = .ok (.goto 4, 3) := by decide +kernel
theorem dX5_isShelf_14 : decode cX5_isShelf 14 = .ok (.iconst 0, 1) := by decide +kernel
theorem dX5_isShelf_15 : decode cX5_isShelf 15 = .ok (.ireturn, 1) := by decide +kernel
theorem dX5_isKind_0 : decode cX5_isKind 0 = .ok (.iload_n 0, 1) := by decide +kernel
theorem dX5_isKind_1 : decode cX5_isKind 1 = .ok (.ifCond .lt 13, 3) := by decide +kernel
theorem dX5_isKind_4 : decode cX5_isKind 4 = .ok (.iload_n 0, 1) := by decide +kernel
theorem dX5_isKind_5 : decode cX5_isKind 5 = .ok (.bipush 6, 2) := by decide +kernel
theorem dX5_isKind_7 : decode cX5_isKind 7 = .ok (.if_icmp .ge 7, 3) := by decide +kernel
theorem dX5_isKind_10 : decode cX5_isKind 10 = .ok (.iconst 1, 1) := by decide +kernel
theorem dX5_isKind_11 : decode cX5_isKind 11 = .ok (.goto 4, 3) := by decide +kernel
theorem dX5_isKind_14 : decode cX5_isKind 14 = .ok (.iconst 0, 1) := by decide +kernel
theorem dX5_isKind_15 : decode cX5_isKind 15 = .ok (.ireturn, 1) := by decide +kernel
theorem dX5_isCommand_0 : decode cX5_isCommand 0 = .ok (.lload_n 0, 1) := by decide +kernel
theorem dX5_isCommand_1 : decode cX5_isCommand 1 = .ok (.lconst 0, 1) := by decide +kernel
theorem dX5_isCommand_2 : decode cX5_isCommand 2 = .ok (.lcmp, 1) := by decide +kernel
theorem dX5_isCommand_3 : decode cX5_isCommand 3 = .ok (.ifCond .lt 15, 3) := by decide +kernel
theorem dX5_isCommand_6 : decode cX5_isCommand 6 = .ok (.lload_n 0, 1) := by decide +kernel
theorem dX5_isCommand_7 : decode cX5_isCommand 7 = .ok (.ldc2_w 347, 3) := by decide +kernel
theorem dX5_isCommand_10 : decode cX5_isCommand 10 = .ok (.lcmp, 1) := by decide +kernel
theorem dX5_isCommand_11 : decode cX5_isCommand 11 = .ok (.ifCond .ge 7, 3) := by decide +kernel
theorem dX5_isCommand_14 : decode cX5_isCommand 14 = .ok (.iconst 1, 1) := by decide +kernel
theorem dX5_isCommand_15 : decode cX5_isCommand 15 = .ok (.goto 4, 3) := by decide +kernel
theorem dX5_isCommand_18 : decode cX5_isCommand 18 = .ok (.iconst 0, 1) := by decide +kernel
theorem dX5_isCommand_19 : decode cX5_isCommand 19 = .ok (.ireturn, 1) := by decide +kernel
theorem dX5_faultOfRow_0 : decode cX5_faultOfRow 0 = .ok (.iload_n 1, 1) := by decide +kernel
theorem dX5_faultOfRow_1 : decode cX5_faultOfRow 1 = .ok (.invokestatic 55, 3) := by decide +kernel
theorem dX5_faultOfRow_4 : decode cX5_faultOfRow 4 = .ok (.ifCond .eq 12, 3) := by decide +kernel
theorem dX5_faultOfRow_7 : decode cX5_faultOfRow 7 = .ok (.iload_n 2, 1) := by decide +kernel
theorem dX5_faultOfRow_8 : decode cX5_faultOfRow 8 = .ok (.ifCond .lt 8, 3) := by decide +kernel
theorem dX5_faultOfRow_11 : decode cX5_faultOfRow 11 = .ok (.iload_n 2, 1) := by decide +kernel
theorem dX5_faultOfRow_12 : decode cX5_faultOfRow 12 = .ok (.iload_n 3, 1) := by decide +kernel
theorem dX5_faultOfRow_13 : decode cX5_faultOfRow 13 = .ok (.if_icmp .le 6, 3) := by decide +kernel
theorem dX5_faultOfRow_16 : decode cX5_faultOfRow 16 = .ok (.bipush (-2), 2) := by decide +kernel
theorem dX5_faultOfRow_18 : decode cX5_faultOfRow 18 = .ok (.ireturn, 1) := by decide +kernel
theorem dX5_faultOfRow_19 : decode cX5_faultOfRow 19 = .ok (.aload_n 0, 1) := by decide +kernel
theorem dX5_faultOfRow_20 : decode cX5_faultOfRow 20 = .ok (.getfield 32, 3) := by decide +kernel
theorem dX5_faultOfRow_23 : decode cX5_faultOfRow 23 = .ok (.iload_n 1, 1) := by decide +kernel
theorem dX5_faultOfRow_24 : decode cX5_faultOfRow 24 = .ok (.aaload, 1) := by decide +kernel
theorem dX5_faultOfRow_25 : decode cX5_faultOfRow 25 = .ok (.invokevirtual 90, 3) := by decide +kernel
theorem dX5_faultOfRow_28 : decode cX5_faultOfRow 28 = .ok (.ifCond .eq 6, 3) := by decide +kernel
theorem dX5_faultOfRow_31 : decode cX5_faultOfRow 31 = .ok (.bipush (-3), 2) := by decide +kernel
theorem dX5_faultOfRow_33 : decode cX5_faultOfRow 33 = .ok (.ireturn, 1) := by decide +kernel
theorem dX5_faultOfRow_34 : decode cX5_faultOfRow 34 = .ok (.aload_n 0, 1) := by decide +kernel
theorem dX5_faultOfRow_35 : decode cX5_faultOfRow 35 = .ok (.getfield 32, 3) := by decide +kernel
theorem dX5_faultOfRow_38 : decode cX5_faultOfRow 38 = .ok (.iload_n 1, 1) := by decide +kernel
theorem dX5_faultOfRow_39 : decode cX5_faultOfRow 39 = .ok (.aaload, 1) := by decide +kernel
theorem dX5_faultOfRow_40 : decode cX5_faultOfRow 40 = .ok (.invokevirtual 86, 3) := by decide +kernel
theorem dX5_faultOfRow_43 : decode cX5_faultOfRow 43 = .ok (.ifCond .ne 6, 3) := by decide +kernel
theorem dX5_faultOfRow_46 : decode cX5_faultOfRow 46 = .ok (.bipush (-4), 2) := by decide +kernel
theorem dX5_faultOfRow_48 : decode cX5_faultOfRow 48 = .ok (.ireturn, 1) := by decide +kernel
theorem dX5_faultOfRow_49 : decode cX5_faultOfRow 49 = .ok (.aload_n 0, 1) := by decide +kernel
theorem dX5_faultOfRow_50 : decode cX5_faultOfRow 50 = .ok (.getfield 32, 3) := by decide +kernel
theorem dX5_faultOfRow_53 : decode cX5_faultOfRow 53 = .ok (.iload_n 1, 1) := by decide +kernel
theorem dX5_faultOfRow_54 : decode cX5_faultOfRow 54 = .ok (.aaload, 1) := by decide +kernel
theorem dX5_faultOfRow_55 : decode cX5_faultOfRow 55 = .ok (.getfield 71, 3) := by decide +kernel
theorem dX5_faultOfRow_58 : decode cX5_faultOfRow 58 = .ok (.iload_n 2, 1) := by decide +kernel
theorem dX5_faultOfRow_59 : decode cX5_faultOfRow 59 = .ok (.if_icmp .ge 8, 3) := by decide +kernel
theorem dX5_faultOfRow_62 : decode cX5_faultOfRow 62 = .ok (.bipush (-2), 2) := by decide +kernel
theorem dX5_faultOfRow_64 : decode cX5_faultOfRow 64 = .ok (.goto 4, 3) := by decide +kernel
theorem dX5_faultOfRow_67 : decode cX5_faultOfRow 67 = .ok (.iconst 0, 1) := by decide +kernel
theorem dX5_faultOfRow_68 : decode cX5_faultOfRow 68 = .ok (.ireturn, 1) := by decide +kernel
theorem dX5_faultOfCommands_0 : decode cX5_faultOfCommands 0 = .ok (.aload_n 0, 1) := by decide +kernel
theorem dX5_faultOfCommands_1 : decode cX5_faultOfCommands 1 = .ok (.iload_n 1, 1) := by decide +kernel
theorem dX5_faultOfCommands_2 : decode cX5_faultOfCommands 2 = .ok (.iload_n 2, 1) := by decide +kernel
theorem dX5_faultOfCommands_3 : decode cX5_faultOfCommands 3 = .ok (.iload_n 3, 1) := by decide +kernel
theorem dX5_faultOfCommands_4 : decode cX5_faultOfCommands 4 = .ok (.invokevirtual 67, 3) := by decide +kernel
theorem dX5_faultOfCommands_7 : decode cX5_faultOfCommands 7 = .ok (.istore 4, 2) := by decide +kernel
theorem dX5_faultOfCommands_9 : decode cX5_faultOfCommands 9 = .ok (.iload 4, 2) := by decide +kernel
theorem dX5_faultOfCommands_11 : decode cX5_faultOfCommands 11 = .ok (.ifCond .eq 6, 3) := by decide +kernel
theorem dX5_faultOfCommands_14 : decode cX5_faultOfCommands 14 = .ok (.iload 4, 2) := by decide +kernel
theorem dX5_faultOfCommands_16 : decode cX5_faultOfCommands 16 = .ok (.ireturn, 1) := by decide +kernel
theorem dX5_faultOfCommands_17 : decode cX5_faultOfCommands 17 = .ok (.iconst 0, 1) := by decide +kernel
theorem dX5_faultOfCommands_18 : decode cX5_faultOfCommands 18 = .ok (.istore 5, 2) := by decide +kernel
theorem dX5_faultOfCommands_20 : decode cX5_faultOfCommands 20 = .ok (.iload 5, 2) := by decide +kernel
theorem dX5_faultOfCommands_22 : decode cX5_faultOfCommands 22 = .ok (.iload_n 2, 1) := by decide +kernel
theorem dX5_faultOfCommands_23 : decode cX5_faultOfCommands 23 = .ok (.if_icmp .ge 30, 3) := by decide +kernel
theorem dX5_faultOfCommands_26 : decode cX5_faultOfCommands 26 = .ok (.aload_n 0, 1) := by decide +kernel
theorem dX5_faultOfCommands_27 : decode cX5_faultOfCommands 27 = .ok (.getfield 32, 3) := by decide +kernel
theorem dX5_faultOfCommands_30 : decode cX5_faultOfCommands 30 = .ok (.iload_n 1, 1) := by decide +kernel
theorem dX5_faultOfCommands_31 : decode cX5_faultOfCommands 31 = .ok (.aaload, 1) := by decide +kernel
theorem dX5_faultOfCommands_32 : decode cX5_faultOfCommands 32 = .ok (.getfield 75, 3) := by decide +kernel
theorem dX5_faultOfCommands_35 : decode cX5_faultOfCommands 35 = .ok (.iload 5, 2) := by decide +kernel
theorem dX5_faultOfCommands_37 : decode cX5_faultOfCommands 37 = .ok (.laload, 1) := by decide +kernel
theorem dX5_faultOfCommands_38 : decode cX5_faultOfCommands 38 = .ok (.invokestatic 331, 3) := by decide +kernel
theorem dX5_faultOfCommands_41 : decode cX5_faultOfCommands 41 = .ok (.ifCond .ne 6, 3) := by decide +kernel
theorem dX5_faultOfCommands_44 : decode cX5_faultOfCommands 44 = .ok (.bipush (-5), 2) := by decide +kernel
theorem dX5_faultOfCommands_46 : decode cX5_faultOfCommands 46 = .ok (.ireturn, 1) := by decide +kernel
theorem dX5_faultOfCommands_47 : decode cX5_faultOfCommands 47 = .ok (.iinc 5 1, 3) := by decide +kernel
theorem dX5_faultOfCommands_50 : decode cX5_faultOfCommands 50 = .ok (.goto (-30), 3) := by decide +kernel
theorem dX5_faultOfCommands_53 : decode cX5_faultOfCommands 53 = .ok (.iconst 0, 1) := by decide +kernel
theorem dX5_faultOfCommands_54 : decode cX5_faultOfCommands 54 = .ok (.ireturn, 1) := by decide +kernel
theorem dX5_faultOfDoable_0 : decode cX5_faultOfDoable 0 = .ok (.aload_n 0, 1) := by decide +kernel
theorem dX5_faultOfDoable_1 : decode cX5_faultOfDoable 1 = .ok (.iload_n 1, 1) := by decide +kernel
theorem dX5_faultOfDoable_2 : decode cX5_faultOfDoable 2 = .ok (.iload_n 2, 1) := by decide +kernel
theorem dX5_faultOfDoable_3 : decode cX5_faultOfDoable 3 = .ok (.bipush 40, 2) := by decide +kernel
theorem dX5_faultOfDoable_5 : decode cX5_faultOfDoable 5 = .ok (.invokevirtual 67, 3) := by decide +kernel
theorem dX5_faultOfDoable_8 : decode cX5_faultOfDoable 8 = .ok (.istore_n 3, 1) := by decide +kernel
theorem dX5_faultOfDoable_9 : decode cX5_faultOfDoable 9 = .ok (.iload_n 3, 1) := by decide +kernel
theorem dX5_faultOfDoable_10 : decode cX5_faultOfDoable 10 = .ok (.ifCond .eq 5, 3) := by decide +kernel
theorem dX5_faultOfDoable_13 : decode cX5_faultOfDoable 13 = .ok (.iload_n 3, 1) := by decide +kernel
theorem dX5_faultOfDoable_14 : decode cX5_faultOfDoable 14 = .ok (.ireturn, 1) := by decide +kernel
theorem dX5_faultOfDoable_15 : decode cX5_faultOfDoable 15 = .ok (.aload_n 0, 1) := by decide +kernel
theorem dX5_faultOfDoable_16 : decode cX5_faultOfDoable 16 = .ok (.aload_n 0, 1) := by decide +kernel
theorem dX5_faultOfDoable_17 : decode cX5_faultOfDoable 17 = .ok (.getfield 32, 3) := by decide +kernel
theorem dX5_faultOfDoable_20 : decode cX5_faultOfDoable 20 = .ok (.iload_n 1, 1) := by decide +kernel
theorem dX5_faultOfDoable_21 : decode cX5_faultOfDoable 21 = .ok (.aaload, 1) := by decide +kernel
theorem dX5_faultOfDoable_22 : decode cX5_faultOfDoable 22 = .ok (.iload_n 2, 1) := by decide +kernel
theorem dX5_faultOfDoable_23 : decode cX5_faultOfDoable 23 = .ok (.invokevirtual 321, 3) := by decide +kernel
theorem dX5_faultOfDoable_26 : decode cX5_faultOfDoable 26 = .ok (.iconst (-1), 1) := by decide +kernel
theorem dX5_faultOfDoable_27 : decode cX5_faultOfDoable 27 = .ok (.if_icmp .ne 7, 3) := by decide +kernel
theorem dX5_faultOfDoable_30 : decode cX5_faultOfDoable 30 = .ok (.iconst 0, 1) := by decide +kernel
theorem dX5_faultOfDoable_31 : decode cX5_faultOfDoable 31 = .ok (.goto 5, 3) := by decide +kernel
theorem dX5_faultOfDoable_34 : decode cX5_faultOfDoable 34 = .ok (.bipush (-5), 2) := by decide +kernel
theorem dX5_faultOfDoable_36 : decode cX5_faultOfDoable 36 = .ok (.ireturn, 1) := by decide +kernel
theorem dX5_firstWrong_0 : decode cX5_firstWrong 0 = .ok (.aload_n 0, 1) := by decide +kernel
theorem dX5_firstWrong_1 : decode cX5_firstWrong 1 = .ok (.getfield 10, 3) := by decide +kernel
theorem dX5_firstWrong_4 : decode cX5_firstWrong 4 = .ok (.getfield 118, 3) := by decide +kernel
theorem dX5_firstWrong_7 : decode cX5_firstWrong 7 = .ok (.getfield 150, 3) := by decide +kernel
theorem dX5_firstWrong_10 : decode cX5_firstWrong 10 = .ok (.istore_n 3, 1) := by decide +kernel
theorem dX5_firstWrong_11 : decode cX5_firstWrong 11 = .ok (.iconst 0, 1) := by decide +kernel
theorem dX5_firstWrong_12 : decode cX5_firstWrong 12 = .ok (.istore 4, 2) := by decide +kernel
theorem dX5_firstWrong_14 : decode cX5_firstWrong 14 = .ok (.iload 4, 2) := by decide +kernel
theorem dX5_firstWrong_16 : decode cX5_firstWrong 16 = .ok (.iload_n 2, 1) := by decide +kernel
theorem dX5_firstWrong_17 : decode cX5_firstWrong 17 = .ok (.if_icmp .ge 53, 3) := by decide +kernel
theorem dX5_firstWrong_20 : decode cX5_firstWrong 20 = .ok (.aload_n 1, 1) := by decide +kernel
theorem dX5_firstWrong_21 : decode cX5_firstWrong 21 = .ok (.getfield 75, 3) := by decide +kernel
theorem dX5_firstWrong_24 : decode cX5_firstWrong 24 = .ok (.iload 4, 2) := by decide +kernel
theorem dX5_firstWrong_26 : decode cX5_firstWrong 26 = .ok (.laload, 1) := by decide +kernel
theorem dX5_firstWrong_27 : decode cX5_firstWrong 27 = .ok (.lstore 5, 2) := by decide +kernel
theorem dX5_firstWrong_29 : decode cX5_firstWrong 29 = .ok (.lload 5, 2) := by decide +kernel
theorem dX5_firstWrong_31 : decode cX5_firstWrong 31 = .ok (.invokestatic 331, 3) := by decide +kernel
theorem dX5_firstWrong_34 : decode cX5_firstWrong 34 = .ok (.ifCond .eq 17, 3) := by decide +kernel
theorem dX5_firstWrong_37 : decode cX5_firstWrong 37 = .ok (.aload_n 0, 1) := by decide +kernel
theorem dX5_firstWrong_38 : decode cX5_firstWrong 38 = .ok (.getfield 10, 3) := by decide +kernel
theorem dX5_firstWrong_41 : decode cX5_firstWrong 41 = .ok (.iload_n 3, 1) := by decide +kernel
theorem dX5_firstWrong_42 : decode cX5_firstWrong 42 = .ok (.lload 5, 2) := by decide +kernel
theorem dX5_firstWrong_44 : decode cX5_firstWrong 44 = .ok (.l2i, 1) := by decide +kernel
theorem dX5_firstWrong_45 : decode cX5_firstWrong 45 = .ok (.invokevirtual 310, 3) := by decide +kernel
theorem dX5_firstWrong_48 : decode cX5_firstWrong 48 = .ok (.ifCond .ne 6, 3) := by decide +kernel
theorem dX5_firstWrong_51 : decode cX5_firstWrong 51 = .ok (.iload 4, 2) := by decide +kernel
theorem dX5_firstWrong_53 : decode cX5_firstWrong 53 = .ok (.ireturn, 1) := by decide +kernel
theorem dX5_firstWrong_54 : decode cX5_firstWrong 54 = .ok (.iload_n 3, 1) := by decide +kernel
theorem dX5_firstWrong_55 : decode cX5_firstWrong 55 = .ok (.getstatic 294, 3) := by decide +kernel
theorem dX5_firstWrong_58 : decode cX5_firstWrong 58 = .ok (.lload 5, 2) := by decide +kernel
theorem dX5_firstWrong_60 : decode cX5_firstWrong 60 = .ok (.l2i, 1) := by decide +kernel
theorem dX5_firstWrong_61 : decode cX5_firstWrong 61 = .ok (.iaload, 1) := by decide +kernel
theorem dX5_firstWrong_62 : decode cX5_firstWrong 62 = .ok (.iadd, 1) := by decide +kernel
theorem dX5_firstWrong_63 : decode cX5_firstWrong 63 = .ok (.istore_n 3, 1) := by decide +kernel
theorem dX5_firstWrong_64 : decode cX5_firstWrong 64 = .ok (.iinc 4 1, 3) := by decide +kernel
theorem dX5_firstWrong_67 : decode cX5_firstWrong 67 = .ok (.goto (-53), 3) := by decide +kernel
theorem dX5_firstWrong_70 : decode cX5_firstWrong 70 = .ok (.iconst (-1), 1) := by decide +kernel
theorem dX5_firstWrong_71 : decode cX5_firstWrong 71 = .ok (.ireturn, 1) := by decide +kernel
theorem dX5_takeTold_0 : decode cX5_takeTold 0 = .ok (.iconst 0, 1) := by decide +kernel
theorem dX5_takeTold_1 : decode cX5_takeTold 1 = .ok (.istore 4, 2) := by decide +kernel
theorem dX5_takeTold_3 : decode cX5_takeTold 3 = .ok (.iload 4, 2) := by decide +kernel
theorem dX5_takeTold_5 : decode cX5_takeTold 5 = .ok (.iload_n 3, 1) := by decide +kernel
theorem dX5_takeTold_6 : decode cX5_takeTold 6 = .ok (.if_icmp .ge 25, 3) := by decide +kernel
theorem dX5_takeTold_9 : decode cX5_takeTold 9 = .ok (.aload_n 0, 1) := by decide +kernel
theorem dX5_takeTold_10 : decode cX5_takeTold 10 = .ok (.getfield 10, 3) := by decide +kernel
theorem dX5_takeTold_13 : decode cX5_takeTold 13 = .ok (.aload_n 1, 1) := by decide +kernel
theorem dX5_takeTold_14 : decode cX5_takeTold 14 = .ok (.aload_n 2, 1) := by decide +kernel
theorem dX5_takeTold_15 : decode cX5_takeTold 15 = .ok (.getfield 75, 3) := by decide +kernel
theorem dX5_takeTold_18 : decode cX5_takeTold 18 = .ok (.iload 4, 2) := by decide +kernel
theorem dX5_takeTold_20 : decode cX5_takeTold 20 = .ok (.laload, 1) := by decide +kernel
theorem dX5_takeTold_21 : decode cX5_takeTold 21 = .ok (.l2i, 1) := by decide +kernel
theorem dX5_takeTold_22 : decode cX5_takeTold 22 = .ok (.invokevirtual 211, 3) := by decide +kernel
theorem dX5_takeTold_25 : decode cX5_takeTold 25 = .ok (.iinc 4 1, 3) := by decide +kernel
theorem dX5_takeTold_28 : decode cX5_takeTold 28 = .ok (.goto (-25), 3) := by decide +kernel
theorem dX5_takeTold_31 : decode cX5_takeTold 31 = .ok (.return_, 1) := by decide +kernel
theorem dX5_weightIfAllIn_0 : decode cX5_weightIfAllIn 0 = .ok (.lconst 1, 1) := by decide +kernel
theorem dX5_weightIfAllIn_1 : decode cX5_weightIfAllIn 1 = .ok (.lstore 4, 2) := by decide +kernel
theorem dX5_weightIfAllIn_3 : decode cX5_weightIfAllIn 3 = .ok (.aload_n 0, 1) := by decide +kernel
theorem dX5_weightIfAllIn_4 : decode cX5_weightIfAllIn 4 = .ok (.getfield 44, 3) := by decide +kernel
theorem dX5_weightIfAllIn_7 : decode cX5_weightIfAllIn 7 = .ok (.aload_n 0, 1) := by decide +kernel
theorem dX5_weightIfAllIn_8 : decode cX5_weightIfAllIn 8 = .ok (.getfield 10, 3) := by decide +kernel
theorem dX5_weightIfAllIn_11 : decode cX5_weightIfAllIn 11 = .ok (.getfield 118, 3) := by decide +kernel
theorem dX5_weightIfAllIn_14 : decode cX5_weightIfAllIn 14 = .ok (.invokevirtual 191, 3) := by decide +kernel
theorem dX5_weightIfAllIn_17 : decode cX5_weightIfAllIn 17 = .ok (.iconst 0, 1) := by decide +kernel
theorem dX5_weightIfAllIn_18 : decode cX5_weightIfAllIn 18 = .ok (.istore 6, 2) := by decide +kernel
theorem dX5_weightIfAllIn_20 : decode cX5_weightIfAllIn 20 = .ok (.iload 6, 2) := by decide +kernel
theorem dX5_weightIfAllIn_22 : decode cX5_weightIfAllIn 22 = .ok (.iload_n 2, 1) := by decide +kernel
theorem dX5_weightIfAllIn_23 : decode cX5_weightIfAllIn 23 = .ok (.if_icmp .ge 91, 3) := by decide +kernel
theorem dX5_weightIfAllIn_26 : decode cX5_weightIfAllIn 26 = .ok (.iload_n 3, 1) := by decide +kernel
theorem dX5_weightIfAllIn_27 : decode cX5_weightIfAllIn 27 = .ok (.iload 6, 2) := by decide +kernel
theorem dX5_weightIfAllIn_29 : decode cX5_weightIfAllIn 29 = .ok (.ishr, 1) := by decide +kernel
theorem dX5_weightIfAllIn_30 : decode cX5_weightIfAllIn 30 = .ok (.iconst 1, 1) := by decide +kernel
theorem dX5_weightIfAllIn_31 : decode cX5_weightIfAllIn 31 = .ok (.iand, 1) := by decide +kernel
theorem dX5_weightIfAllIn_32 : decode cX5_weightIfAllIn 32 = .ok (.ifCond .ne 7, 3) := by decide +kernel
theorem dX5_weightIfAllIn_35 : decode cX5_weightIfAllIn 35 = .ok (.iconst 1, 1) := by decide +kernel
theorem dX5_weightIfAllIn_36 : decode cX5_weightIfAllIn 36 = .ok (.goto 4, 3) := by decide +kernel
theorem dX5_weightIfAllIn_39 : decode cX5_weightIfAllIn 39 = .ok (.iconst 0, 1) := by decide +kernel
theorem dX5_weightIfAllIn_40 : decode cX5_weightIfAllIn 40 = .ok (.istore 7, 2) := by decide +kernel
theorem dX5_weightIfAllIn_42 : decode cX5_weightIfAllIn 42 = .ok (.lload 4, 2) := by decide +kernel
theorem dX5_weightIfAllIn_44 : decode cX5_weightIfAllIn 44 = .ok (.iload 7, 2) := by decide +kernel
theorem dX5_weightIfAllIn_46 : decode cX5_weightIfAllIn 46 = .ok (.ifCond .eq 17, 3) := by decide +kernel
theorem dX5_weightIfAllIn_49 : decode cX5_weightIfAllIn 49 = .ok (.bipush 12, 2) := by decide +kernel
theorem dX5_weightIfAllIn_51 : decode cX5_weightIfAllIn 51 = .ok (.aload_n 0, 1) := by decide +kernel
theorem dX5_weightIfAllIn_52 : decode cX5_weightIfAllIn 52 = .ok (.getfield 10, 3) := by decide +kernel
theorem dX5_weightIfAllIn_55 : decode cX5_weightIfAllIn 55 = .ok (.getfield 165, 3) := by decide +kernel
theorem dX5_weightIfAllIn_58 : decode cX5_weightIfAllIn 58 = .ok (.isub, 1) := by decide +kernel
theorem dX5_weightIfAllIn_59 : decode cX5_weightIfAllIn 59 = .ok (.i2l, 1) := by decide +kernel
theorem dX5_weightIfAllIn_60 : decode cX5_weightIfAllIn 60 = .ok (.goto 11, 3) := by decide +kernel
theorem dX5_weightIfAllIn_63 : decode cX5_weightIfAllIn 63 = .ok (.aload_n 0, 1) := by decide +kernel
theorem dX5_weightIfAllIn_64 : decode cX5_weightIfAllIn 64 = .ok (.getfield 10, 3) := by decide +kernel
theorem dX5_weightIfAllIn_67 : decode cX5_weightIfAllIn 67 = .ok (.getfield 165, 3) := by decide +kernel
theorem dX5_weightIfAllIn_70 : decode cX5_weightIfAllIn 70 = .ok (.i2l, 1) := by decide +kernel
theorem dX5_weightIfAllIn_71 : decode cX5_weightIfAllIn 71 = .ok (.lmul, 1) := by decide +kernel
theorem dX5_weightIfAllIn_72 : decode cX5_weightIfAllIn 72 = .ok (.lstore 4, 2) := by decide +kernel
theorem dX5_weightIfAllIn_74 : decode cX5_weightIfAllIn 74 = .ok (.aload_n 0, 1) := by decide +kernel
theorem dX5_weightIfAllIn_75 : decode cX5_weightIfAllIn 75 = .ok (.getfield 10, 3) := by decide +kernel
theorem dX5_weightIfAllIn_78 : decode cX5_weightIfAllIn 78 = .ok (.aload_n 0, 1) := by decide +kernel
theorem dX5_weightIfAllIn_79 : decode cX5_weightIfAllIn 79 = .ok (.getfield 44, 3) := by decide +kernel
theorem dX5_weightIfAllIn_82 : decode cX5_weightIfAllIn 82 = .ok (.iload 7, 2) := by decide +kernel
theorem dX5_weightIfAllIn_84 : decode cX5_weightIfAllIn 84 = .ok (.ifCond .eq 14, 3) := by decide +kernel
theorem dX5_weightIfAllIn_87 : decode cX5_weightIfAllIn 87 = .ok (.aload_n 1, 1) := by decide +kernel
theorem dX5_weightIfAllIn_88 : decode cX5_weightIfAllIn 88 = .ok (.getfield 75, 3) := by decide +kernel
theorem dX5_weightIfAllIn_91 : decode cX5_weightIfAllIn 91 = .ok (.iload 6, 2) := by decide +kernel
theorem dX5_weightIfAllIn_93 : decode cX5_weightIfAllIn 93 = .ok (.laload, 1) := by decide +kernel
theorem dX5_weightIfAllIn_94 : decode cX5_weightIfAllIn 94 = .ok (.l2i, 1) := by decide +kernel
theorem dX5_weightIfAllIn_95 : decode cX5_weightIfAllIn 95 = .ok (.goto 10, 3) := by decide +kernel
theorem dX5_weightIfAllIn_98 : decode cX5_weightIfAllIn 98 = .ok (.aload_n 0, 1) := by decide +kernel
theorem dX5_weightIfAllIn_99 : decode cX5_weightIfAllIn 99 = .ok (.getfield 44, 3) := by decide +kernel
theorem dX5_weightIfAllIn_102 : decode cX5_weightIfAllIn 102 = .ok (.getfield 338, 3) := by decide +kernel
theorem dX5_weightIfAllIn_105 : decode cX5_weightIfAllIn 105 = .ok (.invokevirtual 211, 3) := by decide +kernel
theorem dX5_weightIfAllIn_108 : decode cX5_weightIfAllIn 108 = .ok (.iinc 6 1, 3) := by decide +kernel
theorem dX5_weightIfAllIn_111 : decode cX5_weightIfAllIn 111 = .ok (.goto (-91), 3) := by decide +kernel
theorem dX5_weightIfAllIn_114 : decode cX5_weightIfAllIn 114 = .ok (.aload_n 0, 1) := by decide +kernel
theorem dX5_weightIfAllIn_115 : decode cX5_weightIfAllIn 115 = .ok (.getfield 10, 3) := by decide +kernel
theorem dX5_weightIfAllIn_118 : decode cX5_weightIfAllIn 118 = .ok (.aload_n 0, 1) := by decide +kernel
theorem dX5_weightIfAllIn_119 : decode cX5_weightIfAllIn 119 = .ok (.getfield 44, 3) := by decide +kernel
theorem dX5_weightIfAllIn_122 : decode cX5_weightIfAllIn 122 = .ok (.invokevirtual 235, 3) := by decide +kernel
theorem dX5_weightIfAllIn_125 : decode cX5_weightIfAllIn 125 = .ok (.aload_n 0, 1) := by decide +kernel
theorem dX5_weightIfAllIn_126 : decode cX5_weightIfAllIn 126 = .ok (.getfield 10, 3) := by decide +kernel
theorem dX5_weightIfAllIn_129 : decode cX5_weightIfAllIn 129 = .ok (.getfield 156, 3) := by decide +kernel
theorem dX5_weightIfAllIn_132 : decode cX5_weightIfAllIn 132 = .ok (.if_icmp .ne 8, 3) := by decide +kernel
theorem dX5_weightIfAllIn_135 : decode cX5_weightIfAllIn 135 = .ok (.lload 4, 2) := by decide +kernel
theorem dX5_weightIfAllIn_137 : decode cX5_weightIfAllIn 137 = .ok (.goto 4, 3) := by decide +kernel
theorem dX5_weightIfAllIn_140 : decode cX5_weightIfAllIn 140 = .ok (.lconst 0, 1) := by decide +kernel
theorem dX5_weightIfAllIn_141 : decode cX5_weightIfAllIn 141 = .ok (.lreturn, 1) := by decide +kernel
theorem dX5_areCells_0 : decode cX5_areCells 0 = .ok (.iconst 0, 1) := by decide +kernel
theorem dX5_areCells_1 : decode cX5_areCells 1 = .ok (.istore_n 3, 1) := by decide +kernel
theorem dX5_areCells_2 : decode cX5_areCells 2 = .ok (.iload_n 3, 1) := by decide +kernel
theorem dX5_areCells_3 : decode cX5_areCells 3 = .ok (.iload_n 2, 1) := by decide +kernel
theorem dX5_areCells_4 : decode cX5_areCells 4 = .ok (.if_icmp .ge 48, 3) := by decide +kernel
theorem dX5_areCells_7 : decode cX5_areCells 7 = .ok (.aload_n 1, 1) := by decide +kernel
theorem dX5_areCells_8 : decode cX5_areCells 8 = .ok (.getfield 75, 3) := by decide +kernel
theorem dX5_areCells_11 : decode cX5_areCells 11 = .ok (.iload_n 3, 1) := by decide +kernel
theorem dX5_areCells_12 : decode cX5_areCells 12 = .ok (.laload, 1) := by decide +kernel
theorem dX5_areCells_13 : decode cX5_areCells 13 = .ok (.lstore 4, 2) := by decide +kernel
theorem dX5_areCells_15 : decode cX5_areCells 15 = .ok (.lload 4, 2) := by decide +kernel
theorem dX5_areCells_17 : decode cX5_areCells 17 = .ok (.lconst 0, 1) := by decide +kernel
theorem dX5_areCells_18 : decode cX5_areCells 18 = .ok (.lcmp, 1) := by decide +kernel
theorem dX5_areCells_19 : decode cX5_areCells 19 = .ok (.ifCond .lt 25, 3) := by decide +kernel
theorem dX5_areCells_22 : decode cX5_areCells 22 = .ok (.lload 4, 2) := by decide +kernel
theorem dX5_areCells_24 : decode cX5_areCells 24 = .ok (.ldc2_w 349, 3) := by decide +kernel
theorem dX5_areCells_27 : decode cX5_areCells 27 = .ok (.lcmp, 1) := by decide +kernel
theorem dX5_areCells_28 : decode cX5_areCells 28 = .ok (.ifCond .ge 16, 3) := by decide +kernel
theorem dX5_areCells_31 : decode cX5_areCells 31 = .ok (.aload_n 0, 1) := by decide +kernel
theorem dX5_areCells_32 : decode cX5_areCells 32 = .ok (.getfield 10, 3) := by decide +kernel
theorem dX5_areCells_35 : decode cX5_areCells 35 = .ok (.lload 4, 2) := by decide +kernel
theorem dX5_areCells_37 : decode cX5_areCells 37 = .ok (.l2i, 1) := by decide +kernel
theorem dX5_areCells_38 : decode cX5_areCells 38 = .ok (.invokevirtual 128, 3) := by decide +kernel
theorem dX5_areCells_41 : decode cX5_areCells 41 = .ok (.ifCond .ne 5, 3) := by decide +kernel
theorem dX5_areCells_44 : decode cX5_areCells 44 = .ok (.iconst 0, 1) := by decide +kernel
theorem dX5_areCells_45 : decode cX5_areCells 45 = .ok (.ireturn, 1) := by decide +kernel
theorem dX5_areCells_46 : decode cX5_areCells 46 = .ok (.iinc 3 1, 3) := by decide +kernel
theorem dX5_areCells_49 : decode cX5_areCells 49 = .ok (.goto (-47), 3) := by decide +kernel
theorem dX5_areCells_52 : decode cX5_areCells 52 = .ok (.iconst 1, 1) := by decide +kernel
theorem dX5_areCells_53 : decode cX5_areCells 53 = .ok (.ireturn, 1) := by decide +kernel
theorem dX5_goesSo_0 : decode cX5_goesSo 0 = .ok (.aload_n 0, 1) := by decide +kernel
theorem dX5_goesSo_1 : decode cX5_goesSo 1 = .ok (.getfield 44, 3) := by decide +kernel
theorem dX5_goesSo_4 : decode cX5_goesSo 4 = .ok (.aload_n 0, 1) := by decide +kernel
theorem dX5_goesSo_5 : decode cX5_goesSo 5 = .ok (.getfield 10, 3) := by decide +kernel
theorem dX5_goesSo_8 : decode cX5_goesSo 8 = .ok (.getfield 118, 3) := by decide +kernel
theorem dX5_goesSo_11 : decode cX5_goesSo 11 = .ok (.invokevirtual 191, 3) := by decide +kernel
theorem dX5_goesSo_14 : decode cX5_goesSo 14 = .ok (.iconst 0, 1) := by decide +kernel
theorem dX5_goesSo_15 : decode cX5_goesSo 15 = .ok (.istore 6, 2) := by decide +kernel
theorem dX5_goesSo_17 : decode cX5_goesSo 17 = .ok (.iload 6, 2) := by decide +kernel
theorem dX5_goesSo_19 : decode cX5_goesSo 19 = .ok (.iload 5, 2) := by decide +kernel
theorem dX5_goesSo_21 : decode cX5_goesSo 21 = .ok (.if_icmp .ge 67, 3) := by decide +kernel
theorem dX5_goesSo_24 : decode cX5_goesSo 24 = .ok (.aload_n 0, 1) := by decide +kernel
theorem dX5_goesSo_25 : decode cX5_goesSo 25 = .ok (.getfield 44, 3) := by decide +kernel
theorem dX5_goesSo_28 : decode cX5_goesSo 28 = .ok (.aload_n 3, 1) := by decide +kernel
theorem dX5_goesSo_29 : decode cX5_goesSo 29 = .ok (.getfield 75, 3) := by decide +kernel
theorem dX5_goesSo_32 : decode cX5_goesSo 32 = .ok (.iload 6, 2) := by decide +kernel
theorem dX5_goesSo_34 : decode cX5_goesSo 34 = .ok (.laload, 1) := by decide +kernel
theorem dX5_goesSo_35 : decode cX5_goesSo 35 = .ok (.l2i, 1) := by decide +kernel
theorem dX5_goesSo_36 : decode cX5_goesSo 36 = .ok (.putfield 150, 3) := by decide +kernel
theorem dX5_goesSo_39 : decode cX5_goesSo 39 = .ok (.aload_n 0, 1) := by decide +kernel
theorem dX5_goesSo_40 : decode cX5_goesSo 40 = .ok (.getfield 10, 3) := by decide +kernel
theorem dX5_goesSo_43 : decode cX5_goesSo 43 = .ok (.aload_n 0, 1) := by decide +kernel
theorem dX5_goesSo_44 : decode cX5_goesSo 44 = .ok (.getfield 44, 3) := by decide +kernel
theorem dX5_goesSo_47 : decode cX5_goesSo 47 = .ok (.iload_n 1, 1) := by decide +kernel
theorem dX5_goesSo_48 : decode cX5_goesSo 48 = .ok (.iload_n 2, 1) := by decide +kernel
theorem dX5_goesSo_49 : decode cX5_goesSo 49 = .ok (.invokevirtual 121, 3) := by decide +kernel
theorem dX5_goesSo_52 : decode cX5_goesSo 52 = .ok (.istore 7, 2) := by decide +kernel
theorem dX5_goesSo_54 : decode cX5_goesSo 54 = .ok (.iload 7, 2) := by decide +kernel
theorem dX5_goesSo_56 : decode cX5_goesSo 56 = .ok (.i2l, 1) := by decide +kernel
theorem dX5_goesSo_57 : decode cX5_goesSo 57 = .ok (.aload 4, 2) := by decide +kernel
theorem dX5_goesSo_59 : decode cX5_goesSo 59 = .ok (.getfield 75, 3) := by decide +kernel
theorem dX5_goesSo_62 : decode cX5_goesSo 62 = .ok (.iload 6, 2) := by decide +kernel
theorem dX5_goesSo_64 : decode cX5_goesSo 64 = .ok (.laload, 1) := by decide +kernel
theorem dX5_goesSo_65 : decode cX5_goesSo 65 = .ok (.lcmp, 1) := by decide +kernel
theorem dX5_goesSo_66 : decode cX5_goesSo 66 = .ok (.ifCond .eq 5, 3) := by decide +kernel
theorem dX5_goesSo_69 : decode cX5_goesSo 69 = .ok (.iconst 0, 1) := by decide +kernel
theorem dX5_goesSo_70 : decode cX5_goesSo 70 = .ok (.ireturn, 1) := by decide +kernel
theorem dX5_goesSo_71 : decode cX5_goesSo 71 = .ok (.aload_n 0, 1) := by decide +kernel
theorem dX5_goesSo_72 : decode cX5_goesSo 72 = .ok (.getfield 44, 3) := by decide +kernel
theorem dX5_goesSo_75 : decode cX5_goesSo 75 = .ok (.getfield 162, 3) := by decide +kernel
theorem dX5_goesSo_78 : decode cX5_goesSo 78 = .ok (.iload_n 1, 1) := by decide +kernel
theorem dX5_goesSo_79 : decode cX5_goesSo 79 = .ok (.iload 7, 2) := by decide +kernel
theorem dX5_goesSo_81 : decode cX5_goesSo 81 = .ok (.iastore, 1) := by decide +kernel
theorem dX5_goesSo_82 : decode cX5_goesSo 82 = .ok (.iinc 6 1, 3) := by decide +kernel
theorem dX5_goesSo_85 : decode cX5_goesSo 85 = .ok (.goto (-68), 3) := by decide +kernel
theorem dX5_goesSo_88 : decode cX5_goesSo 88 = .ok (.iconst 1, 1) := by decide +kernel
theorem dX5_goesSo_89 : decode cX5_goesSo 89 = .ok (.ireturn, 1) := by decide +kernel
theorem dX5_countFilledShelves_0 : decode cX5_countFilledShelves 0 = .ok (.iconst 0, 1) := by decide +kernel
theorem dX5_countFilledShelves_1 : decode cX5_countFilledShelves 1 = .ok (.istore_n 1, 1) := by decide +kernel
theorem dX5_countFilledShelves_2 : decode cX5_countFilledShelves 2 = .ok (.iconst 0, 1) := by decide +kernel
theorem dX5_countFilledShelves_3 : decode cX5_countFilledShelves 3 = .ok (.istore_n 2, 1) := by decide +kernel
theorem dX5_countFilledShelves_4 : decode cX5_countFilledShelves 4 = .ok (.iload_n 2, 1) := by decide +kernel
theorem dX5_countFilledShelves_5 : decode cX5_countFilledShelves 5 = .ok (.bipush 8, 2) := by decide +kernel
theorem dX5_countFilledShelves_7 : decode cX5_countFilledShelves 7 = .ok (.if_icmp .ge 25, 3) := by decide +kernel
theorem dX5_countFilledShelves_10 : decode cX5_countFilledShelves 10 = .ok (.aload_n 0, 1) := by decide +kernel
theorem dX5_countFilledShelves_11 : decode cX5_countFilledShelves 11 = .ok (.getfield 32, 3) := by decide +kernel
theorem dX5_countFilledShelves_14 : decode cX5_countFilledShelves 14 = .ok (.iload_n 2, 1) := by decide +kernel
theorem dX5_countFilledShelves_15 : decode cX5_countFilledShelves 15 = .ok (.aaload, 1) := by decide +kernel
theorem dX5_countFilledShelves_16 : decode cX5_countFilledShelves 16 = .ok (.getfield 79, 3) := by decide +kernel
theorem dX5_countFilledShelves_19 : decode cX5_countFilledShelves 19 = .ok (.iconst (-1), 1) := by decide +kernel
theorem dX5_countFilledShelves_20 : decode cX5_countFilledShelves 20 = .ok (.if_icmp .eq 6, 3) := by decide +kernel
theorem dX5_countFilledShelves_23 : decode cX5_countFilledShelves 23 = .ok (.iinc 1 1, 3) := by decide +kernel
theorem dX5_countFilledShelves_26 : decode cX5_countFilledShelves 26 = .ok (.iinc 2 1, 3) := by decide +kernel
theorem dX5_countFilledShelves_29 : decode cX5_countFilledShelves 29 = .ok (.goto (-25), 3) := by decide +kernel
theorem dX5_countFilledShelves_32 : decode cX5_countFilledShelves 32 = .ok (.iload_n 1, 1) := by decide +kernel
theorem dX5_countFilledShelves_33 : decode cX5_countFilledShelves 33 = .ok (.ireturn, 1) := by decide +kernel
theorem dX5_cutTo_0 : decode cX5_cutTo 0 = .ok (.iload_n 0, 1) := by decide +kernel
theorem dX5_cutTo_1 : decode cX5_cutTo 1 = .ok (.tableswitch 61 0 4 #[35, 40, 45, 61, 49], 35) := by decide +kernel
theorem dX5_cutTo_36 : decode cX5_cutTo 36 = .ok (.lload_n 1, 1) := by decide +kernel
theorem dX5_cutTo_37 : decode cX5_cutTo 37 = .ok (.l2i, 1) := by decide +kernel
theorem dX5_cutTo_38 : decode cX5_cutTo 38 = .ok (.i2b, 1) := by decide +kernel
theorem dX5_cutTo_39 : decode cX5_cutTo 39 = .ok (.i2l, 1) := by decide +kernel
theorem dX5_cutTo_40 : decode cX5_cutTo 40 = .ok (.lreturn, 1) := by decide +kernel
theorem dX5_cutTo_41 : decode cX5_cutTo 41 = .ok (.lload_n 1, 1) := by decide +kernel
theorem dX5_cutTo_42 : decode cX5_cutTo 42 = .ok (.l2i, 1) := by decide +kernel
theorem dX5_cutTo_43 : decode cX5_cutTo 43 = .ok (.i2s, 1) := by decide +kernel
theorem dX5_cutTo_44 : decode cX5_cutTo 44 = .ok (.i2l, 1) := by decide +kernel
theorem dX5_cutTo_45 : decode cX5_cutTo 45 = .ok (.lreturn, 1) := by decide +kernel
theorem dX5_cutTo_46 : decode cX5_cutTo 46 = .ok (.lload_n 1, 1) := by decide +kernel
theorem dX5_cutTo_47 : decode cX5_cutTo 47 = .ok (.l2i, 1) := by decide +kernel
theorem dX5_cutTo_48 : decode cX5_cutTo 48 = .ok (.i2l, 1) := by decide +kernel
theorem dX5_cutTo_49 : decode cX5_cutTo 49 = .ok (.lreturn, 1) := by decide +kernel
theorem dX5_cutTo_50 : decode cX5_cutTo 50 = .ok (.lload_n 1, 1) := by decide +kernel
theorem dX5_cutTo_51 : decode cX5_cutTo 51 = .ok (.lconst 0, 1) := by decide +kernel
theorem dX5_cutTo_52 : decode cX5_cutTo 52 = .ok (.lcmp, 1) := by decide +kernel
theorem dX5_cutTo_53 : decode cX5_cutTo 53 = .ok (.ifCond .eq 7, 3) := by decide +kernel
theorem dX5_cutTo_56 : decode cX5_cutTo 56 = .ok (.lconst 1, 1) := by decide +kernel
theorem dX5_cutTo_57 : decode cX5_cutTo 57 = .ok (.goto 4, 3) := by decide +kernel
theorem dX5_cutTo_60 : decode cX5_cutTo 60 = .ok (.lconst 0, 1) := by decide +kernel
theorem dX5_cutTo_61 : decode cX5_cutTo 61 = .ok (.lreturn, 1) := by decide +kernel
theorem dX5_cutTo_62 : decode cX5_cutTo 62 = .ok (.lload_n 1, 1) := by decide +kernel
theorem dX5_cutTo_63 : decode cX5_cutTo 63 = .ok (.lreturn, 1) := by decide +kernel
theorem dX5_stepsBetween_0 : decode cX5_stepsBetween 0 = .ok (.iload_n 0, 1) := by decide +kernel
theorem dX5_stepsBetween_1 : decode cX5_stepsBetween 1 = .ok (.bipush 10, 2) := by decide +kernel
theorem dX5_stepsBetween_3 : decode cX5_stepsBetween 3 = .ok (.idiv, 1) := by decide +kernel
theorem dX5_stepsBetween_4 : decode cX5_stepsBetween 4 = .ok (.iload_n 1, 1) := by decide +kernel
theorem dX5_stepsBetween_5 : decode cX5_stepsBetween 5 = .ok (.bipush 10, 2) := by decide +kernel
theorem dX5_stepsBetween_7 : decode cX5_stepsBetween 7 = .ok (.idiv, 1) := by decide +kernel
theorem dX5_stepsBetween_8 : decode cX5_stepsBetween 8 = .ok (.isub, 1) := by decide +kernel
theorem dX5_stepsBetween_9 : decode cX5_stepsBetween 9 = .ok (.invokestatic 351, 3) := by decide +kernel
theorem dX5_stepsBetween_12 : decode cX5_stepsBetween 12 = .ok (.iload_n 0, 1) := by decide +kernel
theorem dX5_stepsBetween_13 : decode cX5_stepsBetween 13 = .ok (.bipush 10, 2) := by decide +kernel
theorem dX5_stepsBetween_15 : decode cX5_stepsBetween 15 = .ok (.irem, 1) := by decide +kernel
theorem dX5_stepsBetween_16 : decode cX5_stepsBetween 16 = .ok (.iload_n 1, 1) := by decide +kernel
theorem dX5_stepsBetween_17 : decode cX5_stepsBetween 17 = .ok (.bipush 10, 2) := by decide +kernel
theorem dX5_stepsBetween_19 : decode cX5_stepsBetween 19 = .ok (.irem, 1) := by decide +kernel
theorem dX5_stepsBetween_20 : decode cX5_stepsBetween 20 = .ok (.isub, 1) := by decide +kernel
theorem dX5_stepsBetween_21 : decode cX5_stepsBetween 21 = .ok (.invokestatic 351, 3) := by decide +kernel
theorem dX5_stepsBetween_24 : decode cX5_stepsBetween 24 = .ok (.iadd, 1) := by decide +kernel
theorem dX5_stepsBetween_25 : decode cX5_stepsBetween 25 = .ok (.ireturn, 1) := by decide +kernel
theorem dX5_bitOf_0 : decode cX5_bitOf 0 = .ok (.lconst 1, 1) := by decide +kernel
theorem dX5_bitOf_1 : decode cX5_bitOf 1 = .ok (.iload_n 0, 1) := by decide +kernel
theorem dX5_bitOf_2 : decode cX5_bitOf 2 = .ok (.bipush 10, 2) := by decide +kernel
theorem dX5_bitOf_4 : decode cX5_bitOf 4 = .ok (.idiv, 1) := by decide +kernel
theorem dX5_bitOf_5 : decode cX5_bitOf 5 = .ok (.bipush 8, 2) := by decide +kernel
theorem dX5_bitOf_7 : decode cX5_bitOf 7 = .ok (.imul, 1) := by decide +kernel
theorem dX5_bitOf_8 : decode cX5_bitOf 8 = .ok (.iload_n 0, 1) := by decide +kernel
theorem dX5_bitOf_9 : decode cX5_bitOf 9 = .ok (.bipush 10, 2) := by decide +kernel
theorem dX5_bitOf_11 : decode cX5_bitOf 11 = .ok (.irem, 1) := by decide +kernel
theorem dX5_bitOf_12 : decode cX5_bitOf 12 = .ok (.iadd, 1) := by decide +kernel
theorem dX5_bitOf_13 : decode cX5_bitOf 13 = .ok (.lshl, 1) := by decide +kernel
theorem dX5_bitOf_14 : decode cX5_bitOf 14 = .ok (.lreturn, 1) := by decide +kernel
theorem dX5_isUnder_0 : decode cX5_isUnder 0 = .ok (.iload_n 0, 1) := by decide +kernel
theorem dX5_isUnder_1 : decode cX5_isUnder 1 = .ok (.istore_n 2, 1) := by decide +kernel
theorem dX5_isUnder_2 : decode cX5_isUnder 2 = .ok (.iconst 0, 1) := by decide +kernel
theorem dX5_isUnder_3 : decode cX5_isUnder 3 = .ok (.istore_n 3, 1) := by decide +kernel
theorem dX5_isUnder_4 : decode cX5_isUnder 4 = .ok (.iload_n 3, 1) := by decide +kernel
theorem dX5_isUnder_5 : decode cX5_isUnder 5 = .ok (.bipush 6, 2) := by decide +kernel
theorem dX5_isUnder_7 : decode cX5_isUnder 7 = .ok (.if_icmp .ge 29, 3) := by decide +kernel
theorem dX5_isUnder_10 : decode cX5_isUnder 10 = .ok (.iload_n 2, 1) := by decide +kernel
theorem dX5_isUnder_11 : decode cX5_isUnder 11 = .ok (.invokestatic 106, 3) := by decide +kernel
theorem dX5_isUnder_14 : decode cX5_isUnder 14 = .ok (.ifCond .eq 22, 3) := by decide +kernel
theorem dX5_isUnder_17 : decode cX5_isUnder 17 = .ok (.iload_n 2, 1) := by decide +kernel
theorem dX5_isUnder_18 : decode cX5_isUnder 18 = .ok (.iload_n 1, 1) := by decide +kernel
theorem dX5_isUnder_19 : decode cX5_isUnder 19 = .ok (.if_icmp .ne 5, 3) := by decide +kernel
theorem dX5_isUnder_22 : decode cX5_isUnder 22 = .ok (.iconst 1, 1) := by decide +kernel
theorem dX5_isUnder_23 : decode cX5_isUnder 23 = .ok (.ireturn, 1) := by decide +kernel
theorem dX5_isUnder_24 : decode cX5_isUnder 24 = .ok (.getstatic 354, 3) := by decide +kernel
theorem dX5_isUnder_27 : decode cX5_isUnder 27 = .ok (.iload_n 2, 1) := by decide +kernel
theorem dX5_isUnder_28 : decode cX5_isUnder 28 = .ok (.iaload, 1) := by decide +kernel
theorem dX5_isUnder_29 : decode cX5_isUnder 29 = .ok (.istore_n 2, 1) := by decide +kernel
theorem dX5_isUnder_30 : decode cX5_isUnder 30 = .ok (.iinc 3 1, 3) := by decide +kernel
theorem dX5_isUnder_33 : decode cX5_isUnder 33 = .ok (.goto (-29), 3) := by decide +kernel
theorem dX5_isUnder_36 : decode cX5_isUnder 36 = .ok (.iconst 0, 1) := by decide +kernel
theorem dX5_isUnder_37 : decode cX5_isUnder 37 = .ok (.ireturn, 1) := by decide +kernel
