/-! decode rows -/
theorem dX6_init_0 : decode cX6_init 0 = .ok (.aload_n 0, 1) := by decide +kernel
theorem dX6_init_1 : decode cX6_init 1 = .ok (.invokespecial 1, 3) := by decide +kernel
theorem dX6_init_4 : decode cX6_init 4 = .ok (.aload_n 0, 1) := by decide +kernel
theorem dX6_init_5 : decode cX6_init 5 = .ok (.bipush 8, 2) := by decide +kernel
theorem dX6_init_7 : decode cX6_init 7 = .ok (.anewarray 9, 3) := by decide +kernel
theorem dX6_init_10 : decode cX6_init 10 = .ok (.putfield 11, 3) := by decide +kernel
theorem dX6_init_13 : decode cX6_init 13 = .ok (.aload_n 0, 1) := by decide +kernel
theorem dX6_init_14 : decode cX6_init 14 = .ok (.bipush 8, 2) := by decide +kernel
theorem dX6_init_16 : decode cX6_init 16 = .ok (.newarray .int, 2) := by decide +kernel
theorem dX6_init_18 : decode cX6_init 18 = .ok (.putfield 15, 3) := by decide +kernel
theorem dX6_init_21 : decode cX6_init 21 = .ok (.aload_n 0, 1) := by decide +kernel
theorem dX6_init_22 : decode cX6_init 22 = .ok (.new 19, 3) := by decide +kernel
theorem dX6_init_25 : decode cX6_init 25 = .ok (.dup, 1) := by decide +kernel
theorem dX6_init_26 : decode cX6_init 26 = .ok (.invokespecial 21, 3) := by decide +kernel
theorem dX6_init_29 : decode cX6_init 29 = .ok (.putfield 22, 3) := by decide +kernel
theorem dX6_init_32 : decode cX6_init 32 = .ok (.aload_n 0, 1) := by decide +kernel
theorem dX6_init_33 : decode cX6_init 33 = .ok (.new 19, 3) := by decide +kernel
theorem dX6_init_36 : decode cX6_init 36 = .ok (.dup, 1) := by decide +kernel
theorem dX6_init_37 : decode cX6_init 37 = .ok (.invokespecial 21, 3) := by decide +kernel
theorem dX6_init_40 : decode cX6_init 40 = .ok (.putfield 26, 3) := by decide +kernel
theorem dX6_init_43 : decode cX6_init 43 = .ok (.aload_n 0, 1) := by decide +kernel
theorem dX6_init_44 : decode cX6_init 44 = .ok (.new 19, 3) := by decide +kernel
theorem dX6_init_47 : decode cX6_init 47 = .ok (.dup, 1) := by decide +kernel
theorem dX6_init_48 : decode cX6_init 48 = .ok (.invokespecial 21, 3) := by decide +kernel
theorem dX6_init_51 : decode cX6_init 51 = .ok (.putfield 29, 3) := by decide +kernel
theorem dX6_init_54 : decode cX6_init 54 = .ok (.aload_n 0, 1) := by decide +kernel
theorem dX6_init_55 : decode cX6_init 55 = .ok (.new 32, 3) := by decide +kernel
theorem dX6_init_58 : decode cX6_init 58 = .ok (.dup, 1) := by decide +kernel
theorem dX6_init_59 : decode cX6_init 59 = .ok (.invokespecial 34, 3) := by decide +kernel
theorem dX6_init_62 : decode cX6_init 62 = .ok (.putfield 35, 3) := by decide +kernel
theorem dX6_init_65 : decode cX6_init 65 = .ok (.aload_n 0, 1) := by decide +kernel
theorem dX6_init_66 : decode cX6_init 66 = .ok (.new 39, 3) := by decide +kernel
theorem dX6_init_69 : decode cX6_init 69 = .ok (.dup, 1) := by decide +kernel
theorem dX6_init_70 : decode cX6_init 70 = .ok (.invokespecial 41, 3) := by decide +kernel
theorem dX6_init_73 : decode cX6_init 73 = .ok (.putfield 42, 3) := by decide +kernel
theorem dX6_init_76 : decode cX6_init 76 = .ok (.iconst 0, 1) := by decide +kernel
theorem dX6_init_77 : decode cX6_init 77 = .ok (.istore_n 1, 1) := by decide +kernel
theorem dX6_init_78 : decode cX6_init 78 = .ok (.iload_n 1, 1) := by decide +kernel
theorem dX6_init_79 : decode cX6_init 79 = .ok (.bipush 8, 2) := by decide +kernel
theorem dX6_init_81 : decode cX6_init 81 = .ok (.if_icmp .ge 22, 3) := by decide +kernel
theorem dX6_init_84 : decode cX6_init 84 = .ok (.aload_n 0, 1) := by decide +kernel
theorem dX6_init_85 : decode cX6_init 85 = .ok (.getfield 11, 3) := by decide +kernel
theorem dX6_init_88 : decode cX6_init 88 = .ok (.iload_n 1, 1) := by decide +kernel
theorem dX6_init_89 : decode cX6_init 89 = .ok (.new 9, 3) := by decide +kernel
theorem dX6_init_92 : decode cX6_init 92 = .ok (.dup, 1) := by decide +kernel
theorem dX6_init_93 : decode cX6_init 93 = .ok (.invokespecial 46, 3) := by decide +kernel
theorem dX6_init_96 : decode cX6_init 96 = .ok (.aastore, 1) := by decide +kernel
theorem dX6_init_97 : decode cX6_init 97 = .ok (.iinc 1 1, 3) := by decide +kernel
theorem dX6_init_100 : decode cX6_init 100 = .ok (.goto (-22), 3) := by decide +kernel
theorem dX6_init_103 : decode cX6_init 103 = .ok (.return_, 1) := by decide +kernel
theorem dX6_row_0 : decode cX6_row 0 = .ok (.iload_n 1, 1) := by decide +kernel
theorem dX6_row_1 : decode cX6_row 1 = .ok (.invokestatic 47, 3) := by decide +kernel
theorem dX6_row_4 : decode cX6_row 4 = .ok (.ifCond .ne 9, 3) := by decide +kernel
theorem dX6_row_7 : decode cX6_row 7 = .ok (.aload_n 0, 1) := by decide +kernel
theorem dX6_row_8 : decode cX6_row 8 = .ok (.iconst (-1), 1) := by decide +kernel
theorem dX6_row_9 : decode cX6_row 9 = .ok (.invokevirtual 51, 3) := by decide +kernel
theorem dX6_row_12 : decode cX6_row 12 = .ok (.ireturn, 1) := by decide +kernel
theorem dX6_row_13 : decode cX6_row 13 = .ok (.iload_n 3, 1) := by decide +kernel
theorem dX6_row_14 : decode cX6_row 14 = .ok (.ifCond .ge 10, 3) := by decide +kernel
theorem dX6_row_17 : decode cX6_row 17 = .ok (.aload_n 0, 1) := by decide +kernel
theorem dX6_row_18 : decode cX6_row 18 = .ok (.bipush (-4), 2) := by decide +kernel
theorem dX6_row_20 : decode cX6_row 20 = .ok (.invokevirtual 51, 3) := by decide +kernel
theorem dX6_row_23 : decode cX6_row 23 = .ok (.ireturn, 1) := by decide +kernel
theorem dX6_row_24 : decode cX6_row 24 = .ok (.iload_n 2, 1) := by decide +kernel
theorem dX6_row_25 : decode cX6_row 25 = .ok (.ifCond .lt 8, 3) := by decide +kernel
theorem dX6_row_28 : decode cX6_row 28 = .ok (.iload_n 2, 1) := by decide +kernel
theorem dX6_row_29 : decode cX6_row 29 = .ok (.iconst 4, 1) := by decide +kernel
theorem dX6_row_30 : decode cX6_row 30 = .ok (.if_icmp .lt 10, 3) := by decide +kernel
theorem dX6_row_33 : decode cX6_row 33 = .ok (.aload_n 0, 1) := by decide +kernel
theorem dX6_row_34 : decode cX6_row 34 = .ok (.bipush (-6), 2) := by decide +kernel
theorem dX6_row_36 : decode cX6_row 36 = .ok (.invokevirtual 51, 3) := by decide +kernel
theorem dX6_row_39 : decode cX6_row 39 = .ok (.ireturn, 1) := by decide +kernel
theorem dX6_row_40 : decode cX6_row 40 = .ok (.iload_n 3, 1) := by decide +kernel
theorem dX6_row_41 : decode cX6_row 41 = .ok (.sipush 160, 3) := by decide +kernel
theorem dX6_row_44 : decode cX6_row 44 = .ok (.if_icmp .le 10, 3) := by decide +kernel
theorem dX6_row_47 : decode cX6_row 47 = .ok (.aload_n 0, 1) := by decide +kernel
theorem dX6_row_48 : decode cX6_row 48 = .ok (.bipush (-7), 2) := by decide +kernel
theorem dX6_row_50 : decode cX6_row 50 = .ok (.invokevirtual 51, 3) := by decide +kernel
theorem dX6_row_53 : decode cX6_row 53 = .ok (.ireturn, 1) := by decide +kernel
theorem dX6_row_54 : decode cX6_row 54 = .ok (.aload_n 0, 1) := by decide +kernel
theorem dX6_row_55 : decode cX6_row 55 = .ok (.getfield 11, 3) := by decide +kernel
theorem dX6_row_58 : decode cX6_row 58 = .ok (.iload_n 1, 1) := by decide +kernel
theorem dX6_row_59 : decode cX6_row 59 = .ok (.aaload, 1) := by decide +kernel
theorem dX6_row_60 : decode cX6_row 60 = .ok (.iload_n 2, 1) := by decide +kernel
theorem dX6_row_61 : decode cX6_row 61 = .ok (.iload_n 3, 1) := by decide +kernel
theorem dX6_row_62 : decode cX6_row 62 = .ok (.invokevirtual 55, 3) := by decide +kernel
theorem dX6_row_65 : decode cX6_row 65 = .ok (.iconst 1, 1) := by decide +kernel
theorem dX6_row_66 : decode cX6_row 66 = .ok (.ireturn, 1) := by decide +kernel
theorem dX6_set_0 : decode cX6_set 0 = .ok (.aload_n 0, 1) := by decide +kernel
theorem dX6_set_1 : decode cX6_set 1 = .ok (.iload_n 1, 1) := by decide +kernel
theorem dX6_set_2 : decode cX6_set 2 = .ok (.invokevirtual 59, 3) := by decide +kernel
theorem dX6_set_5 : decode cX6_set 5 = .ok (.istore 5, 2) := by decide +kernel
theorem dX6_set_7 : decode cX6_set 7 = .ok (.iload 5, 2) := by decide +kernel
theorem dX6_set_9 : decode cX6_set 9 = .ok (.ifCond .eq 10, 3) := by decide +kernel
theorem dX6_set_12 : decode cX6_set 12 = .ok (.aload_n 0, 1) := by decide +kernel
theorem dX6_set_13 : decode cX6_set 13 = .ok (.iload 5, 2) := by decide +kernel
theorem dX6_set_15 : decode cX6_set 15 = .ok (.invokevirtual 51, 3) := by decide +kernel
theorem dX6_set_18 : decode cX6_set 18 = .ok (.ireturn, 1) := by decide +kernel
theorem dX6_set_19 : decode cX6_set 19 = .ok (.iload_n 2, 1) := by decide +kernel
theorem dX6_set_20 : decode cX6_set 20 = .ok (.ifCond .lt 16, 3) := by decide +kernel
theorem dX6_set_23 : decode cX6_set 23 = .ok (.iload_n 2, 1) := by decide +kernel
theorem dX6_set_24 : decode cX6_set 24 = .ok (.aload_n 0, 1) := by decide +kernel
theorem dX6_set_25 : decode cX6_set 25 = .ok (.getfield 11, 3) := by decide +kernel
theorem dX6_set_28 : decode cX6_set 28 = .ok (.iload_n 1, 1) := by decide +kernel
theorem dX6_set_29 : decode cX6_set 29 = .ok (.aaload, 1) := by decide +kernel
theorem dX6_set_30 : decode cX6_set 30 = .ok (.getfield 62, 3) := by decide +kernel
theorem dX6_set_33 : decode cX6_set 33 = .ok (.if_icmp .lt 10, 3) := by decide +kernel
theorem dX6_set_36 : decode cX6_set 36 = .ok (.aload_n 0, 1) := by decide +kernel
theorem dX6_set_37 : decode cX6_set 37 = .ok (.bipush (-5), 2) := by decide +kernel
theorem dX6_set_39 : decode cX6_set 39 = .ok (.invokevirtual 51, 3) := by decide +kernel
theorem dX6_set_42 : decode cX6_set 42 = .ok (.ireturn, 1) := by decide +kernel
theorem dX6_set_43 : decode cX6_set 43 = .ok (.aload_n 0, 1) := by decide +kernel
theorem dX6_set_44 : decode cX6_set 44 = .ok (.getfield 11, 3) := by decide +kernel
theorem dX6_set_47 : decode cX6_set 47 = .ok (.iload_n 1, 1) := by decide +kernel
theorem dX6_set_48 : decode cX6_set 48 = .ok (.aaload, 1) := by decide +kernel
theorem dX6_set_49 : decode cX6_set 49 = .ok (.iload_n 2, 1) := by decide +kernel
theorem dX6_set_50 : decode cX6_set 50 = .ok (.lload_n 3, 1) := by decide +kernel
theorem dX6_set_51 : decode cX6_set 51 = .ok (.invokevirtual 66, 3) := by decide +kernel
theorem dX6_set_54 : decode cX6_set 54 = .ok (.iconst 1, 1) := by decide +kernel
theorem dX6_set_55 : decode cX6_set 55 = .ok (.ireturn, 1) := by decide +kernel
theorem dX6_copy_0 : decode cX6_copy 0 = .ok (.iload_n 1, 1) := by decide +kernel
theorem dX6_copy_1 : decode cX6_copy 1 = .ok (.invokestatic 47, 3) := by decide +kernel
theorem dX6_copy_4 : decode cX6_copy 4 = .ok (.ifCond .eq 10, 3) := by decide +kernel
theorem dX6_copy_7 : decode cX6_copy 7 = .ok (.iload_n 2, 1) := by decide +kernel
theorem dX6_copy_8 : decode cX6_copy 8 = .ok (.invokestatic 47, 3) := by decide +kernel
theorem dX6_copy_11 : decode cX6_copy 11 = .ok (.ifCond .ne 9, 3) := by decide +kernel
theorem dX6_copy_14 : decode cX6_copy 14 = .ok (.aload_n 0, 1) := by decide +kernel
theorem dX6_copy_15 : decode cX6_copy 15 = .ok (.iconst (-1), 1) := by decide +kernel
theorem dX6_copy_16 : decode cX6_copy 16 = .ok (.invokevirtual 51, 3) := by decide +kernel
theorem dX6_copy_19 : decode cX6_copy 19 = .ok (.ireturn, 1) := by decide +kernel
theorem dX6_copy_20 : decode cX6_copy 20 = .ok (.aload_n 0, 1) := by decide +kernel
theorem dX6_copy_21 : decode cX6_copy 21 = .ok (.getfield 11, 3) := by decide +kernel
theorem dX6_copy_24 : decode cX6_copy 24 = .ok (.iload_n 1, 1) := by decide +kernel
theorem dX6_copy_25 : decode cX6_copy 25 = .ok (.aaload, 1) := by decide +kernel
theorem dX6_copy_26 : decode cX6_copy 26 = .ok (.astore 6, 2) := by decide +kernel
theorem dX6_copy_28 : decode cX6_copy 28 = .ok (.aload_n 0, 1) := by decide +kernel
theorem dX6_copy_29 : decode cX6_copy 29 = .ok (.getfield 11, 3) := by decide +kernel
theorem dX6_copy_32 : decode cX6_copy 32 = .ok (.iload_n 2, 1) := by decide +kernel
theorem dX6_copy_33 : decode cX6_copy 33 = .ok (.aaload, 1) := by decide +kernel
theorem dX6_copy_34 : decode cX6_copy 34 = .ok (.astore 7, 2) := by decide +kernel
theorem dX6_copy_36 : decode cX6_copy 36 = .ok (.aload 6, 2) := by decide +kernel
theorem dX6_copy_38 : decode cX6_copy 38 = .ok (.invokevirtual 70, 3) := by decide +kernel
theorem dX6_copy_41 : decode cX6_copy 41 = .ok (.ifCond .ne 11, 3) := by decide +kernel
theorem dX6_copy_44 : decode cX6_copy 44 = .ok (.aload 7, 2) := by decide +kernel
theorem dX6_copy_46 : decode cX6_copy 46 = .ok (.invokevirtual 70, 3) := by decide +kernel
theorem dX6_copy_49 : decode cX6_copy 49 = .ok (.ifCond .eq 10, 3) := by decide +kernel
theorem dX6_copy_52 : decode cX6_copy 52 = .ok (.aload_n 0, 1) := by decide +kernel
theorem dX6_copy_53 : decode cX6_copy 53 = .ok (.bipush (-2), 2) := by decide +kernel
theorem dX6_copy_55 : decode cX6_copy 55 = .ok (.invokevirtual 51, 3) := by decide +kernel
theorem dX6_copy_58 : decode cX6_copy 58 = .ok (.ireturn, 1) := by decide +kernel
theorem dX6_copy_59 : decode cX6_copy 59 = .ok (.aload 6, 2) := by decide +kernel
theorem dX6_copy_61 : decode cX6_copy 61 = .ok (.invokevirtual 74, 3) := by decide +kernel
theorem dX6_copy_64 : decode cX6_copy 64 = .ok (.ifCond .eq 31, 3) := by decide +kernel
theorem dX6_copy_67 : decode cX6_copy 67 = .ok (.aload 7, 2) := by decide +kernel
theorem dX6_copy_69 : decode cX6_copy 69 = .ok (.invokevirtual 74, 3) := by decide +kernel
theorem dX6_copy_72 : decode cX6_copy 72 = .ok (.ifCond .eq 23, 3) := by decide +kernel
theorem dX6_copy_75 : decode cX6_copy 75 = .ok (.aload 6, 2) := by decide +kernel
theorem dX6_copy_77 : decode cX6_copy 77 = .ok (.getfield 77, 3) := by decide +kernel
theorem dX6_copy_80 : decode cX6_copy 80 = .ok (.aload 7, 2) := by decide +kernel
theorem dX6_copy_82 : decode cX6_copy 82 = .ok (.getfield 77, 3) := by decide +kernel
theorem dX6_copy_85 : decode cX6_copy 85 = .ok (.if_icmp .eq 10, 3) := by decide +kernel
theorem dX6_copy_88 : decode cX6_copy 88 = .ok (.aload_n 0, 1) := by decide +kernel
theorem dX6_copy_89 : decode cX6_copy 89 = .ok (.bipush (-2), 2) := by decide +kernel
theorem dX6_copy_91 : decode cX6_copy 91 = .ok (.invokevirtual 51, 3) := by decide +kernel
theorem dX6_copy_94 : decode cX6_copy 94 = .ok (.ireturn, 1) := by decide +kernel
theorem dX6_copy_95 : decode cX6_copy 95 = .ok (.aload 6, 2) := by decide +kernel
theorem dX6_copy_97 : decode cX6_copy 97 = .ok (.invokevirtual 74, 3) := by decide +kernel
theorem dX6_copy_100 : decode cX6_copy 100 = .ok (.ifCond .eq 11, 3) := by decide +kernel
theorem dX6_copy_103 : decode cX6_copy 103 = .ok (.aload 7, 2) := by decide +kernel
theorem dX6_copy_105 : decode cX6_copy 105 = .ok (.invokevirtual 74, 3) := by decide +kernel
theorem dX6_copy_108 : decode cX6_copy 108 = .ok (.ifCond .ne 10, 3) := by decide +kernel
theorem dX6_copy_111 : decode cX6_copy 111 = .ok (.aload_n 0, 1) := by decide +kernel
theorem dX6_copy_112 : decode cX6_copy 112 = .ok (.bipush (-3), 2) := by decide +kernel
theorem dX6_copy_114 : decode cX6_copy 114 = .ok (.invokevirtual 51, 3) := by decide +kernel
theorem dX6_copy_117 : decode cX6_copy 117 = .ok (.ireturn, 1) := by decide +kernel
theorem dX6_copy_118 : decode cX6_copy 118 = .ok (.iload 5, 2) := by decide +kernel
theorem dX6_copy_120 : decode cX6_copy 120 = .ok (.ifCond .ge 10, 3) := by decide +kernel
theorem dX6_copy_123 : decode cX6_copy 123 = .ok (.aload_n 0, 1) := by decide +kernel
theorem dX6_copy_124 : decode cX6_copy 124 = .ok (.bipush (-4), 2) := by decide +kernel
theorem dX6_copy_126 : decode cX6_copy 126 = .ok (.invokevirtual 51, 3) := by decide +kernel
theorem dX6_copy_129 : decode cX6_copy 129 = .ok (.ireturn, 1) := by decide +kernel
theorem dX6_copy_130 : decode cX6_copy 130 = .ok (.aload 6, 2) := by decide +kernel
theorem dX6_copy_132 : decode cX6_copy 132 = .ok (.iload_n 3, 1) := by decide +kernel
theorem dX6_copy_133 : decode cX6_copy 133 = .ok (.iload 5, 2) := by decide +kernel
theorem dX6_copy_135 : decode cX6_copy 135 = .ok (.invokevirtual 80, 3) := by decide +kernel
theorem dX6_copy_138 : decode cX6_copy 138 = .ok (.ifCond .eq 15, 3) := by decide +kernel
theorem dX6_copy_141 : decode cX6_copy 141 = .ok (.aload 7, 2) := by decide +kernel
theorem dX6_copy_143 : decode cX6_copy 143 = .ok (.iload 4, 2) := by decide +kernel
theorem dX6_copy_145 : decode cX6_copy 145 = .ok (.iload 5, 2) := by decide +kernel
theorem dX6_copy_147 : decode cX6_copy 147 = .ok (.invokevirtual 80, 3) := by decide +kernel
theorem dX6_copy_150 : decode cX6_copy 150 = .ok (.ifCond .ne 10, 3) := by decide +kernel
theorem dX6_copy_153 : decode cX6_copy 153 = .ok (.aload_n 0, 1) := by decide +kernel
theorem dX6_copy_154 : decode cX6_copy 154 = .ok (.bipush (-5), 2) := by decide +kernel
theorem dX6_copy_156 : decode cX6_copy 156 = .ok (.invokevirtual 51, 3) := by decide +kernel
theorem dX6_copy_159 : decode cX6_copy 159 = .ok (.ireturn, 1) := by decide +kernel
theorem dX6_copy_160 : decode cX6_copy 160 = .ok (.aload 6, 2) := by decide +kernel
theorem dX6_copy_162 : decode cX6_copy 162 = .ok (.getfield 84, 3) := by decide +kernel
theorem dX6_copy_165 : decode cX6_copy 165 = .ok (.iload_n 3, 1) := by decide +kernel
theorem dX6_copy_166 : decode cX6_copy 166 = .ok (.aload 7, 2) := by decide +kernel
theorem dX6_copy_168 : decode cX6_copy 168 = .ok (.getfield 84, 3) := by decide +kernel
theorem dX6_copy_171 : decode cX6_copy 171 = .ok (.iload 4, 2) := by decide +kernel
theorem dX6_copy_173 : decode cX6_copy 173 = .ok (.iload 5, 2) := by decide +kernel
theorem dX6_copy_175 : decode cX6_copy 175 = .ok (.invokestatic 88, 3) := by decide +kernel
theorem dX6_copy_178 : decode cX6_copy 178 = .ok (.iconst 1, 1) := by decide +kernel
theorem dX6_copy_179 : decode cX6_copy 179 = .ok (.ireturn, 1) := by decide +kernel
theorem dX6_element_0 : decode cX6_element 0 = .ok (.iload_n 1, 1) := by decide +kernel
theorem dX6_element_1 : decode cX6_element 1 = .ok (.invokestatic 47, 3) := by decide +kernel
theorem dX6_element_4 : decode cX6_element 4 = .ok (.ifCond .eq 32, 3) := by decide +kernel
theorem dX6_element_7 : decode cX6_element 7 = .ok (.aload_n 0, 1) := by decide +kernel
theorem dX6_element_8 : decode cX6_element 8 = .ok (.getfield 11, 3) := by decide +kernel
theorem dX6_element_11 : decode cX6_element 11 = .ok (.iload_n 1, 1) := by decide +kernel
theorem dX6_element_12 : decode cX6_element 12 = .ok (.aaload, 1) := by decide +kernel
theorem dX6_element_13 : decode cX6_element 13 = .ok (.invokevirtual 74, 3) := by decide +kernel
theorem dX6_element_16 : decode cX6_element 16 = .ok (.ifCond .eq 20, 3) := by decide +kernel
theorem dX6_element_19 : decode cX6_element 19 = .ok (.iload_n 2, 1) := by decide +kernel
theorem dX6_element_20 : decode cX6_element 20 = .ok (.ifCond .lt 16, 3) := by decide +kernel
theorem dX6_element_23 : decode cX6_element 23 = .ok (.iload_n 2, 1) := by decide +kernel
theorem dX6_element_24 : decode cX6_element 24 = .ok (.aload_n 0, 1) := by decide +kernel
theorem dX6_element_25 : decode cX6_element 25 = .ok (.getfield 11, 3) := by decide +kernel
theorem dX6_element_28 : decode cX6_element 28 = .ok (.iload_n 1, 1) := by decide +kernel
theorem dX6_element_29 : decode cX6_element 29 = .ok (.aaload, 1) := by decide +kernel
theorem dX6_element_30 : decode cX6_element 30 = .ok (.getfield 62, 3) := by decide +kernel
theorem dX6_element_33 : decode cX6_element 33 = .ok (.if_icmp .lt 5, 3) := by decide +kernel
theorem dX6_element_36 : decode cX6_element 36 = .ok (.lconst 0, 1) := by decide +kernel
theorem dX6_element_37 : decode cX6_element 37 = .ok (.lreturn, 1) := by decide +kernel
theorem dX6_element_38 : decode cX6_element 38 = .ok (.aload_n 0, 1) := by decide +kernel
theorem dX6_element_39 : decode cX6_element 39 = .ok (.getfield 11, 3) := by decide +kernel
theorem dX6_element_42 : decode cX6_element 42 = .ok (.iload_n 1, 1) := by decide +kernel
theorem dX6_element_43 : decode cX6_element 43 = .ok (.aaload, 1) := by decide +kernel
theorem dX6_element_44 : decode cX6_element 44 = .ok (.getfield 84, 3) := by decide +kernel
theorem dX6_element_47 : decode cX6_element 47 = .ok (.iload_n 2, 1) := by decide +kernel
theorem dX6_element_48 : decode cX6_element 48 = .ok (.laload, 1) := by decide +kernel
theorem dX6_element_49 : decode cX6_element 49 = .ok (.lreturn, 1) := by decide +kernel
theorem dX6_show_0 : decode cX6_show 0 = .ok (.iload_n 1, 1) := by decide +kernel
theorem dX6_show_1 : decode cX6_show 1 = .ok (.invokestatic 47, 3) := by decide +kernel
theorem dX6_show_4 : decode cX6_show 4 = .ok (.ifCond .eq 16, 3) := by decide +kernel
theorem dX6_show_7 : decode cX6_show 7 = .ok (.iload_n 2, 1) := by decide +kernel
theorem dX6_show_8 : decode cX6_show 8 = .ok (.iconst (-1), 1) := by decide +kernel
theorem dX6_show_9 : decode cX6_show 9 = .ok (.if_icmp .eq 17, 3) := by decide +kernel
theorem dX6_show_12 : decode cX6_show 12 = .ok (.aload_n 0, 1) := by decide +kernel
theorem dX6_show_13 : decode cX6_show 13 = .ok (.iload_n 2, 1) := by decide +kernel
theorem dX6_show_14 : decode cX6_show 14 = .ok (.invokevirtual 94, 3) := by decide +kernel
theorem dX6_show_17 : decode cX6_show 17 = .ok (.ifCond .ne 9, 3) := by decide +kernel
theorem dX6_show_20 : decode cX6_show 20 = .ok (.aload_n 0, 1) := by decide +kernel
theorem dX6_show_21 : decode cX6_show 21 = .ok (.iconst (-1), 1) := by decide +kernel
theorem dX6_show_22 : decode cX6_show 22 = .ok (.invokevirtual 51, 3) := by decide +kernel
theorem dX6_show_25 : decode cX6_show 25 = .ok (.ireturn, 1) := by decide +kernel
theorem dX6_show_26 : decode cX6_show 26 = .ok (.aload_n 0, 1) := by decide +kernel
theorem dX6_show_27 : decode cX6_show 27 = .ok (.getfield 11, 3) := by decide +kernel
theorem dX6_show_30 : decode cX6_show 30 = .ok (.iload_n 1, 1) := by decide +kernel
theorem dX6_show_31 : decode cX6_show 31 = .ok (.aaload, 1) := by decide +kernel
theorem dX6_show_32 : decode cX6_show 32 = .ok (.iload_n 2, 1) := by decide +kernel
theorem dX6_show_33 : decode cX6_show 33 = .ok (.invokevirtual 97, 3) := by decide +kernel
theorem dX6_show_36 : decode cX6_show 36 = .ok (.iload_n 2, 1) := by decide +kernel
theorem dX6_show_37 : decode cX6_show 37 = .ok (.iconst (-1), 1) := by decide +kernel
theorem dX6_show_38 : decode cX6_show 38 = .ok (.if_icmp .ne 7, 3) := by decide +kernel
theorem dX6_show_41 : decode cX6_show 41 = .ok (.iconst 0, 1) := by decide +kernel
theorem dX6_show_42 : decode cX6_show 42 = .ok (.goto 4, 3) := by decide +kernel
theorem dX6_show_45 : decode cX6_show 45 = .ok (.iconst 1, 1) := by decide +kernel
theorem dX6_show_46 : decode cX6_show 46 = .ok (.ireturn, 1) := by decide +kernel
theorem dX6_holds_0 : decode cX6_holds 0 = .ok (.iload_n 1, 1) := by decide +kernel
theorem dX6_holds_1 : decode cX6_holds 1 = .ok (.invokestatic 47, 3) := by decide +kernel
theorem dX6_holds_4 : decode cX6_holds 4 = .ok (.ifCond .eq 15, 3) := by decide +kernel
theorem dX6_holds_7 : decode cX6_holds 7 = .ok (.aload_n 0, 1) := by decide +kernel
theorem dX6_holds_8 : decode cX6_holds 8 = .ok (.getfield 11, 3) := by decide +kernel
theorem dX6_holds_11 : decode cX6_holds 11 = .ok (.iload_n 1, 1) := by decide +kernel
theorem dX6_holds_12 : decode cX6_holds 12 = .ok (.aaload, 1) := by decide +kernel
theorem dX6_holds_13 : decode cX6_holds 13 = .ok (.getfield 77, 3) := by decide +kernel
theorem dX6_holds_16 : decode cX6_holds 16 = .ok (.goto 4, 3) := by decide +kernel
theorem dX6_holds_19 : decode cX6_holds 19 = .ok (.iconst (-1), 1) := by decide +kernel
theorem dX6_holds_20 : decode cX6_holds 20 = .ok (.ireturn, 1) := by decide +kernel
theorem dX6_says_0 : decode cX6_says 0 = .ok (.iload_n 1, 1) := by decide +kernel
theorem dX6_says_1 : decode cX6_says 1 = .ok (.invokestatic 47, 3) := by decide +kernel
theorem dX6_says_4 : decode cX6_says 4 = .ok (.ifCond .eq 10, 3) := by decide +kernel
theorem dX6_says_7 : decode cX6_says 7 = .ok (.iload_n 2, 1) := by decide +kernel
theorem dX6_says_8 : decode cX6_says 8 = .ok (.invokestatic 101, 3) := by decide +kernel
theorem dX6_says_11 : decode cX6_says 11 = .ok (.ifCond .ne 9, 3) := by decide +kernel
theorem dX6_says_14 : decode cX6_says 14 = .ok (.aload_n 0, 1) := by decide +kernel
theorem dX6_says_15 : decode cX6_says 15 = .ok (.iconst (-1), 1) := by decide +kernel
theorem dX6_says_16 : decode cX6_says 16 = .ok (.invokevirtual 51, 3) := by decide +kernel
theorem dX6_says_19 : decode cX6_says 19 = .ok (.ireturn, 1) := by decide +kernel
theorem dX6_says_20 : decode cX6_says 20 = .ok (.aload_n 0, 1) := by decide +kernel
theorem dX6_says_21 : decode cX6_says 21 = .ok (.getfield 11, 3) := by decide +kernel
theorem dX6_says_24 : decode cX6_says 24 = .ok (.iload_n 1, 1) := by decide +kernel
theorem dX6_says_25 : decode cX6_says 25 = .ok (.aaload, 1) := by decide +kernel
theorem dX6_says_26 : decode cX6_says 26 = .ok (.astore_n 3, 1) := by decide +kernel
theorem dX6_says_27 : decode cX6_says 27 = .ok (.aload_n 3, 1) := by decide +kernel
theorem dX6_says_28 : decode cX6_says 28 = .ok (.invokevirtual 74, 3) := by decide +kernel
theorem dX6_says_31 : decode cX6_says 31 = .ok (.ifCond .eq 10, 3) := by decide +kernel
theorem dX6_says_34 : decode cX6_says 34 = .ok (.aload_n 0, 1) := by decide +kernel
theorem dX6_says_35 : decode cX6_says 35 = .ok (.bipush (-2), 2) := by decide +kernel
theorem dX6_says_37 : decode cX6_says 37 = .ok (.invokevirtual 51, 3) := by decide +kernel
theorem dX6_says_40 : decode cX6_says 40 = .ok (.ireturn, 1) := by decide +kernel
theorem dX6_says_41 : decode cX6_says 41 = .ok (.aload_n 3, 1) := by decide +kernel
theorem dX6_says_42 : decode cX6_says 42 = .ok (.invokevirtual 70, 3) := by decide +kernel
theorem dX6_says_45 : decode cX6_says 45 = .ok (.ifCond .eq 14, 3) := by decide +kernel
theorem dX6_says_48 : decode cX6_says 48 = .ok (.aload_n 0, 1) := by decide +kernel
theorem dX6_says_49 : decode cX6_says 49 = .ok (.aload_n 3, 1) := by decide +kernel
theorem dX6_says_50 : decode cX6_says 50 = .ok (.getfield 77, 3) := by decide +kernel
theorem dX6_says_53 : decode cX6_says 53 = .ok (.invokevirtual 94, 3) := by decide +kernel
theorem dX6_says_56 : decode cX6_says 56 = .ok (.ifCond .ne 10, 3) := by decide +kernel
theorem dX6_says_59 : decode cX6_says 59 = .ok (.aload_n 0, 1) := by decide +kernel
theorem dX6_says_60 : decode cX6_says 60 = .ok (.bipush (-3), 2) := by decide +kernel
theorem dX6_says_62 : decode cX6_says 62 = .ok (.invokevirtual 51, 3) := by decide +kernel
theorem dX6_says_65 : decode cX6_says 65 = .ok (.ireturn, 1) := by decide +kernel
theorem dX6_says_66 : decode cX6_says 66 = .ok (.aload_n 0, 1) := by decide +kernel
theorem dX6_says_67 : decode cX6_says 67 = .ok (.getfield 22, 3) := by decide +kernel
theorem dX6_says_70 : decode cX6_says 70 = .ok (.getfield 104, 3) := by decide +kernel
theorem dX6_says_73 : decode cX6_says 73 = .ok (.aload_n 3, 1) := by decide +kernel
theorem dX6_says_74 : decode cX6_says 74 = .ok (.getfield 77, 3) := by decide +kernel
theorem dX6_says_77 : decode cX6_says 77 = .ok (.aaload, 1) := by decide +kernel
theorem dX6_says_78 : decode cX6_says 78 = .ok (.astore 4, 2) := by decide +kernel
theorem dX6_says_80 : decode cX6_says 80 = .ok (.aload 4, 2) := by decide +kernel
theorem dX6_says_82 : decode cX6_says 82 = .ok (.iload_n 2, 1) := by decide +kernel
theorem dX6_says_83 : decode cX6_says 83 = .ok (.invokevirtual 108, 3) := by decide +kernel
theorem dX6_says_86 : decode cX6_says 86 = .ok (.ifCond .ne 10, 3) := by decide +kernel
theorem dX6_says_89 : decode cX6_says 89 = .ok (.aload_n 0, 1) := by decide +kernel
theorem dX6_says_90 : decode cX6_says 90 = .ok (.bipush (-2), 2) := by decide +kernel
theorem dX6_says_92 : decode cX6_says 92 = .ok (.invokevirtual 51, 3) := by decide +kernel
theorem dX6_says_95 : decode cX6_says 95 = .ok (.ireturn, 1) := by decide +kernel
theorem dX6_says_96 : decode cX6_says 96 = .ok (.aload 4, 2) := by decide +kernel
theorem dX6_says_98 : decode cX6_says 98 = .ok (.iload_n 2, 1) := by decide +kernel
theorem dX6_says_99 : decode cX6_says 99 = .ok (.invokevirtual 113, 3) := by decide +kernel
theorem dX6_says_102 : decode cX6_says 102 = .ok (.ireturn, 1) := by decide +kernel
theorem dX6_shop_0 : decode cX6_shop 0 = .ok (.iload_n 1, 1) := by decide +kernel
theorem dX6_shop_1 : decode cX6_shop 1 = .ok (.invokestatic 101, 3) := by decide +kernel
theorem dX6_shop_4 : decode cX6_shop 4 = .ok (.ifCond .ne 9, 3) := by decide +kernel
theorem dX6_shop_7 : decode cX6_shop 7 = .ok (.aload_n 0, 1) := by decide +kernel
theorem dX6_shop_8 : decode cX6_shop 8 = .ok (.iconst (-1), 1) := by decide +kernel
theorem dX6_shop_9 : decode cX6_shop 9 = .ok (.invokevirtual 51, 3) := by decide +kernel
theorem dX6_shop_12 : decode cX6_shop 12 = .ok (.ireturn, 1) := by decide +kernel
theorem dX6_shop_13 : decode cX6_shop 13 = .ok (.iload_n 2, 1) := by decide +kernel
theorem dX6_shop_14 : decode cX6_shop 14 = .ok (.ifCond .lt 21, 3) := by decide +kernel
theorem dX6_shop_17 : decode cX6_shop 17 = .ok (.iload_n 2, 1) := by decide +kernel
theorem dX6_shop_18 : decode cX6_shop 18 = .ok (.bipush 9, 2) := by decide +kernel
theorem dX6_shop_20 : decode cX6_shop 20 = .ok (.if_icmp .gt 15, 3) := by decide +kernel
theorem dX6_shop_23 : decode cX6_shop 23 = .ok (.iload_n 3, 1) := by decide +kernel
theorem dX6_shop_24 : decode cX6_shop 24 = .ok (.iconst 1, 1) := by decide +kernel
theorem dX6_shop_25 : decode cX6_shop 25 = .ok (.if_icmp .lt 10, 3) := by decide +kernel
theorem dX6_shop_28 : decode cX6_shop 28 = .ok (.iload_n 3, 1) := by decide +kernel
theorem dX6_shop_29 : decode cX6_shop 29 = .ok (.sipush 999, 3) := by decide +kernel
theorem dX6_shop_32 : decode cX6_shop 32 = .ok (.if_icmp .le 10, 3) := by decide +kernel
theorem dX6_shop_35 : decode cX6_shop 35 = .ok (.aload_n 0, 1) := by decide +kernel
theorem dX6_shop_36 : decode cX6_shop 36 = .ok (.bipush (-6), 2) := by decide +kernel
theorem dX6_shop_38 : decode cX6_shop 38 = .ok (.invokevirtual 51, 3) := by decide +kernel
theorem dX6_shop_41 : decode cX6_shop 41 = .ok (.ireturn, 1) := by decide +kernel
theorem dX6_shop_42 : decode cX6_shop 42 = .ok (.aload_n 0, 1) := by decide +kernel
theorem dX6_shop_43 : decode cX6_shop 43 = .ok (.getfield 22, 3) := by decide +kernel
theorem dX6_shop_46 : decode cX6_shop 46 = .ok (.getfield 116, 3) := by decide +kernel
theorem dX6_shop_49 : decode cX6_shop 49 = .ok (.bipush 6, 2) := by decide +kernel
theorem dX6_shop_51 : decode cX6_shop 51 = .ok (.if_icmp .lt 10, 3) := by decide +kernel
theorem dX6_shop_54 : decode cX6_shop 54 = .ok (.aload_n 0, 1) := by decide +kernel
theorem dX6_shop_55 : decode cX6_shop 55 = .ok (.bipush (-7), 2) := by decide +kernel
theorem dX6_shop_57 : decode cX6_shop 57 = .ok (.invokevirtual 51, 3) := by decide +kernel
theorem dX6_shop_60 : decode cX6_shop 60 = .ok (.ireturn, 1) := by decide +kernel
theorem dX6_shop_61 : decode cX6_shop 61 = .ok (.aload_n 0, 1) := by decide +kernel
theorem dX6_shop_62 : decode cX6_shop 62 = .ok (.getfield 22, 3) := by decide +kernel
theorem dX6_shop_65 : decode cX6_shop 65 = .ok (.iload_n 1, 1) := by decide +kernel
theorem dX6_shop_66 : decode cX6_shop 66 = .ok (.iload_n 2, 1) := by decide +kernel
theorem dX6_shop_67 : decode cX6_shop 67 = .ok (.iload_n 3, 1) := by decide +kernel
theorem dX6_shop_68 : decode cX6_shop 68 = .ok (.invokevirtual 119, 3) := by decide +kernel
theorem dX6_shop_71 : decode cX6_shop 71 = .ok (.ireturn, 1) := by decide +kernel
theorem dX6_child_0 : decode cX6_child 0 = .ok (.iload_n 1, 1) := by decide +kernel
theorem dX6_child_1 : decode cX6_child 1 = .ok (.iconst 1, 1) := by decide +kernel
theorem dX6_child_2 : decode cX6_child 2 = .ok (.if_icmp .lt 20, 3) := by decide +kernel
theorem dX6_child_5 : decode cX6_child 5 = .ok (.iload_n 1, 1) := by decide +kernel
theorem dX6_child_6 : decode cX6_child 6 = .ok (.bipush 99, 2) := by decide +kernel
theorem dX6_child_8 : decode cX6_child 8 = .ok (.if_icmp .gt 14, 3) := by decide +kernel
theorem dX6_child_11 : decode cX6_child 11 = .ok (.iload_n 2, 1) := by decide +kernel
theorem dX6_child_12 : decode cX6_child 12 = .ok (.ifCond .lt 10, 3) := by decide +kernel
theorem dX6_child_15 : decode cX6_child 15 = .ok (.iload_n 2, 1) := by decide +kernel
theorem dX6_child_16 : decode cX6_child 16 = .ok (.sipush 9999, 3) := by decide +kernel
theorem dX6_child_19 : decode cX6_child 19 = .ok (.if_icmp .le 10, 3) := by decide +kernel
theorem dX6_child_22 : decode cX6_child 22 = .ok (.aload_n 0, 1) := by decide +kernel
theorem dX6_child_23 : decode cX6_child 23 = .ok (.bipush (-6), 2) := by decide +kernel
theorem dX6_child_25 : decode cX6_child 25 = .ok (.invokevirtual 51, 3) := by decide +kernel
theorem dX6_child_28 : decode cX6_child 28 = .ok (.ireturn, 1) := by decide +kernel
theorem dX6_child_29 : decode cX6_child 29 = .ok (.aload_n 0, 1) := by decide +kernel
theorem dX6_child_30 : decode cX6_child 30 = .ok (.getfield 22, 3) := by decide +kernel
theorem dX6_child_33 : decode cX6_child 33 = .ok (.getfield 123, 3) := by decide +kernel
theorem dX6_child_36 : decode cX6_child 36 = .ok (.bipush 6, 2) := by decide +kernel
theorem dX6_child_38 : decode cX6_child 38 = .ok (.if_icmp .lt 10, 3) := by decide +kernel
theorem dX6_child_41 : decode cX6_child 41 = .ok (.aload_n 0, 1) := by decide +kernel
theorem dX6_child_42 : decode cX6_child 42 = .ok (.bipush (-7), 2) := by decide +kernel
theorem dX6_child_44 : decode cX6_child 44 = .ok (.invokevirtual 51, 3) := by decide +kernel
theorem dX6_child_47 : decode cX6_child 47 = .ok (.ireturn, 1) := by decide +kernel
theorem dX6_child_48 : decode cX6_child 48 = .ok (.aload_n 0, 1) := by decide +kernel
theorem dX6_child_49 : decode cX6_child 49 = .ok (.getfield 22, 3) := by decide +kernel
theorem dX6_child_52 : decode cX6_child 52 = .ok (.iload_n 1, 1) := by decide +kernel
theorem dX6_child_53 : decode cX6_child 53 = .ok (.iload_n 2, 1) := by decide +kernel
theorem dX6_child_54 : decode cX6_child 54 = .ok (.invokevirtual 126, 3) := by decide +kernel
theorem dX6_child_57 : decode cX6_child 57 = .ok (.ireturn, 1) := by decide +kernel
theorem dX6_shopOf_0 : decode cX6_shopOf 0 = .ok (.aload_n 0, 1) := by decide +kernel
theorem dX6_shopOf_1 : decode cX6_shopOf 1 = .ok (.iload_n 1, 1) := by decide +kernel
theorem dX6_shopOf_2 : decode cX6_shopOf 2 = .ok (.invokevirtual 94, 3) := by decide +kernel
theorem dX6_shopOf_5 : decode cX6_shopOf 5 = .ok (.ifCond .ne 10, 3) := by decide +kernel
theorem dX6_shopOf_8 : decode cX6_shopOf 8 = .ok (.aload_n 0, 1) := by decide +kernel
theorem dX6_shopOf_9 : decode cX6_shopOf 9 = .ok (.bipush (-5), 2) := by decide +kernel
theorem dX6_shopOf_11 : decode cX6_shopOf 11 = .ok (.invokevirtual 51, 3) := by decide +kernel
theorem dX6_shopOf_14 : decode cX6_shopOf 14 = .ok (.ireturn, 1) := by decide +kernel
theorem dX6_shopOf_15 : decode cX6_shopOf 15 = .ok (.aload_n 0, 1) := by decide +kernel
theorem dX6_shopOf_16 : decode cX6_shopOf 16 = .ok (.getfield 22, 3) := by decide +kernel
theorem dX6_shopOf_19 : decode cX6_shopOf 19 = .ok (.getfield 104, 3) := by decide +kernel
theorem dX6_shopOf_22 : decode cX6_shopOf 22 = .ok (.iload_n 1, 1) := by decide +kernel
theorem dX6_shopOf_23 : decode cX6_shopOf 23 = .ok (.aaload, 1) := by decide +kernel
theorem dX6_shopOf_24 : decode cX6_shopOf 24 = .ok (.astore_n 3, 1) := by decide +kernel
theorem dX6_shopOf_25 : decode cX6_shopOf 25 = .ok (.iload_n 2, 1) := by decide +kernel
theorem dX6_shopOf_26 : decode cX6_shopOf 26 = .ok (.tableswitch 68 0 5 #[38, 43, 48, 53, 58, 63], 38) := by decide +kernel
theorem dX6_shopOf_64 : decode cX6_shopOf 64 = .ok (.aload_n 3, 1) := by decide +kernel
theorem dX6_shopOf_65 : decode cX6_shopOf 65 = .ok (.getfield 130, 3) := by decide +kernel
theorem dX6_shopOf_68 : decode cX6_shopOf 68 = .ok (.ireturn, 1) := by decide +kernel
theorem dX6_shopOf_69 : decode cX6_shopOf 69 = .ok (.aload_n 3, 1) := by decide +kernel
theorem dX6_shopOf_70 : decode cX6_shopOf 70 = .ok (.getfield 133, 3) := by decide +kernel
theorem dX6_shopOf_73 : decode cX6_shopOf 73 = .ok (.ireturn, 1) := by decide +kernel
theorem dX6_shopOf_74 : decode cX6_shopOf 74 = .ok (.aload_n 3, 1) := by decide +kernel
theorem dX6_shopOf_75 : decode cX6_shopOf 75 = .ok (.getfield 136, 3) := by decide +kernel
theorem dX6_shopOf_78 : decode cX6_shopOf 78 = .ok (.ireturn, 1) := by decide +kernel
theorem dX6_shopOf_79 : decode cX6_shopOf 79 = .ok (.aload_n 3, 1) := by decide +kernel
theorem dX6_shopOf_80 : decode cX6_shopOf 80 = .ok (.getfield 139, 3) := by decide +kernel
theorem dX6_shopOf_83 : decode cX6_shopOf 83 = .ok (.ireturn, 1) := by decide +kernel
theorem dX6_shopOf_84 : decode cX6_shopOf 84 = .ok (.aload_n 3, 1) := by decide +kernel
theorem dX6_shopOf_85 : decode cX6_shopOf 85 = .ok (.getfield 142, 3) := by decide +kernel
theorem dX6_shopOf_88 : decode cX6_shopOf 88 = .ok (.ireturn, 1) := by decide +kernel
theorem dX6_shopOf_89 : decode cX6_shopOf 89 = .ok (.aload_n 3, 1) := by decide +kernel
theorem dX6_shopOf_90 : decode cX6_shopOf 90 = .ok (.invokevirtual 145, 3) := by decide +kernel
theorem dX6_shopOf_93 : decode cX6_shopOf 93 = .ok (.ireturn, 1) := by decide +kernel
theorem dX6_shopOf_94 : decode cX6_shopOf 94 = .ok (.aload_n 0, 1) := by decide +kernel
theorem dX6_shopOf_95 : decode cX6_shopOf 95 = .ok (.bipush (-5), 2) := by decide +kernel
theorem dX6_shopOf_97 : decode cX6_shopOf 97 = .ok (.invokevirtual 51, 3) := by decide +kernel
theorem dX6_shopOf_100 : decode cX6_shopOf 100 = .ok (.ireturn, 1) := by decide +kernel
theorem dX6_childOf_0 : decode cX6_childOf 0 = .ok (.aload_n 0, 1) := by decide +kernel
theorem dX6_childOf_1 : decode cX6_childOf 1 = .ok (.iload_n 1, 1) := by decide +kernel
theorem dX6_childOf_2 : decode cX6_childOf 2 = .ok (.invokevirtual 149, 3) := by decide +kernel
theorem dX6_childOf_5 : decode cX6_childOf 5 = .ok (.ifCond .ne 10, 3) := by decide +kernel
theorem dX6_childOf_8 : decode cX6_childOf 8 = .ok (.aload_n 0, 1) := by decide +kernel
theorem dX6_childOf_9 : decode cX6_childOf 9 = .ok (.bipush (-5), 2) := by decide +kernel
theorem dX6_childOf_11 : decode cX6_childOf 11 = .ok (.invokevirtual 51, 3) := by decide +kernel
theorem dX6_childOf_14 : decode cX6_childOf 14 = .ok (.ireturn, 1) := by decide +kernel
theorem dX6_childOf_15 : decode cX6_childOf 15 = .ok (.aload_n 0, 1) := by decide +kernel
theorem dX6_childOf_16 : decode cX6_childOf 16 = .ok (.getfield 22, 3) := by decide +kernel
theorem dX6_childOf_19 : decode cX6_childOf 19 = .ok (.getfield 152, 3) := by decide +kernel
theorem dX6_childOf_22 : decode cX6_childOf 22 = .ok (.iload_n 1, 1) := by decide +kernel
theorem dX6_childOf_23 : decode cX6_childOf 23 = .ok (.aaload, 1) := by decide +kernel
theorem dX6_childOf_24 : decode cX6_childOf 24 = .ok (.astore_n 3, 1) := by decide +kernel
theorem dX6_childOf_25 : decode cX6_childOf 25 = .ok (.iload_n 2, 1) := by decide +kernel
theorem dX6_childOf_26 : decode cX6_childOf 26 = .ok (.tableswitch 70 0 5 #[38, 43, 48, 53, 58, 63], 38) := by decide +kernel
theorem dX6_childOf_64 : decode cX6_childOf 64 = .ok (.aload_n 3, 1) := by decide +kernel
theorem dX6_childOf_65 : decode cX6_childOf 65 = .ok (.getfield 156, 3) := by decide +kernel
theorem dX6_childOf_68 : decode cX6_childOf 68 = .ok (.ireturn, 1) := by decide +kernel
theorem dX6_childOf_69 : decode cX6_childOf 69 = .ok (.aload_n 3, 1) := by decide +kernel
theorem dX6_childOf_70 : decode cX6_childOf 70 = .ok (.getfield 161, 3) := by decide +kernel
theorem dX6_childOf_73 : decode cX6_childOf 73 = .ok (.ireturn, 1) := by decide +kernel
theorem dX6_childOf_74 : decode cX6_childOf 74 = .ok (.aload_n 3, 1) := by decide +kernel
theorem dX6_childOf_75 : decode cX6_childOf 75 = .ok (.getfield 164, 3) := by decide +kernel
theorem dX6_childOf_78 : decode cX6_childOf 78 = .ok (.ireturn, 1) := by decide +kernel
theorem dX6_childOf_79 : decode cX6_childOf 79 = .ok (.aload_n 3, 1) := by decide +kernel
theorem dX6_childOf_80 : decode cX6_childOf 80 = .ok (.getfield 167, 3) := by decide +kernel
theorem dX6_childOf_83 : decode cX6_childOf 83 = .ok (.ireturn, 1) := by decide +kernel
theorem dX6_childOf_84 : decode cX6_childOf 84 = .ok (.aload_n 3, 1) := by decide +kernel
theorem dX6_childOf_85 : decode cX6_childOf 85 = .ok (.getfield 170, 3) := by decide +kernel
theorem dX6_childOf_88 : decode cX6_childOf 88 = .ok (.ireturn, 1) := by decide +kernel
theorem dX6_childOf_89 : decode cX6_childOf 89 = .ok (.aload_n 3, 1) := by decide +kernel
theorem dX6_childOf_90 : decode cX6_childOf 90 = .ok (.getfield 173, 3) := by decide +kernel
theorem dX6_childOf_93 : decode cX6_childOf 93 = .ok (.iconst 1, 1) := by decide +kernel
theorem dX6_childOf_94 : decode cX6_childOf 94 = .ok (.iadd, 1) := by decide +kernel
theorem dX6_childOf_95 : decode cX6_childOf 95 = .ok (.ireturn, 1) := by decide +kernel
theorem dX6_childOf_96 : decode cX6_childOf 96 = .ok (.aload_n 0, 1) := by decide +kernel
theorem dX6_childOf_97 : decode cX6_childOf 97 = .ok (.bipush (-5), 2) := by decide +kernel
theorem dX6_childOf_99 : decode cX6_childOf 99 = .ok (.invokevirtual 51, 3) := by decide +kernel
theorem dX6_childOf_102 : decode cX6_childOf 102 = .ok (.ireturn, 1) := by decide +kernel
theorem dX6_tell_0 : decode cX6_tell 0 = .ok (.aload_n 0, 1) := by decide +kernel
theorem dX6_tell_1 : decode cX6_tell 1 = .ok (.iload_n 1, 1) := by decide +kernel
theorem dX6_tell_2 : decode cX6_tell 2 = .ok (.invokevirtual 149, 3) := by decide +kernel
theorem dX6_tell_5 : decode cX6_tell 5 = .ok (.ifCond .ne 9, 3) := by decide +kernel
theorem dX6_tell_8 : decode cX6_tell 8 = .ok (.aload_n 0, 1) := by decide +kernel
theorem dX6_tell_9 : decode cX6_tell 9 = .ok (.iconst (-1), 1) := by decide +kernel
theorem dX6_tell_10 : decode cX6_tell 10 = .ok (.invokevirtual 51, 3) := by decide +kernel
theorem dX6_tell_13 : decode cX6_tell 13 = .ok (.ireturn, 1) := by decide +kernel
theorem dX6_tell_14 : decode cX6_tell 14 = .ok (.iload_n 2, 1) := by decide +kernel
theorem dX6_tell_15 : decode cX6_tell 15 = .ok (.iconst 3, 1) := by decide +kernel
theorem dX6_tell_16 : decode cX6_tell 16 = .ok (.if_icmp .ne 8, 3) := by decide +kernel
theorem dX6_tell_19 : decode cX6_tell 19 = .ok (.bipush 99, 2) := by decide +kernel
theorem dX6_tell_21 : decode cX6_tell 21 = .ok (.goto 6, 3) := by decide +kernel
theorem dX6_tell_24 : decode cX6_tell 24 = .ok (.sipush 9999, 3) := by decide +kernel
theorem dX6_tell_27 : decode cX6_tell 27 = .ok (.istore 4, 2) := by decide +kernel
theorem dX6_tell_29 : decode cX6_tell 29 = .ok (.iload_n 2, 1) := by decide +kernel
theorem dX6_tell_30 : decode cX6_tell 30 = .ok (.iconst 1, 1) := by decide +kernel
theorem dX6_tell_31 : decode cX6_tell 31 = .ok (.if_icmp .lt 18, 3) := by decide +kernel
theorem dX6_tell_34 : decode cX6_tell 34 = .ok (.iload_n 2, 1) := by decide +kernel
theorem dX6_tell_35 : decode cX6_tell 35 = .ok (.iconst 3, 1) := by decide +kernel
theorem dX6_tell_36 : decode cX6_tell 36 = .ok (.if_icmp .gt 13, 3) := by decide +kernel
theorem dX6_tell_39 : decode cX6_tell 39 = .ok (.iload_n 3, 1) := by decide +kernel
theorem dX6_tell_40 : decode cX6_tell 40 = .ok (.ifCond .lt 9, 3) := by decide +kernel
theorem dX6_tell_43 : decode cX6_tell 43 = .ok (.iload_n 3, 1) := by decide +kernel
theorem dX6_tell_44 : decode cX6_tell 44 = .ok (.iload 4, 2) := by decide +kernel
theorem dX6_tell_46 : decode cX6_tell 46 = .ok (.if_icmp .le 10, 3) := by decide +kernel
theorem dX6_tell_49 : decode cX6_tell 49 = .ok (.aload_n 0, 1) := by decide +kernel
theorem dX6_tell_50 : decode cX6_tell 50 = .ok (.bipush (-6), 2) := by decide +kernel
theorem dX6_tell_52 : decode cX6_tell 52 = .ok (.invokevirtual 51, 3) := by decide +kernel
theorem dX6_tell_55 : decode cX6_tell 55 = .ok (.ireturn, 1) := by decide +kernel
theorem dX6_tell_56 : decode cX6_tell 56 = .ok (.aload_n 0, 1) := by decide +kernel
theorem dX6_tell_57 : decode cX6_tell 57 = .ok (.getfield 22, 3) := by decide +kernel
theorem dX6_tell_60 : decode cX6_tell 60 = .ok (.getfield 152, 3) := by decide +kernel
theorem dX6_tell_63 : decode cX6_tell 63 = .ok (.iload_n 1, 1) := by decide +kernel
theorem dX6_tell_64 : decode cX6_tell 64 = .ok (.aaload, 1) := by decide +kernel
theorem dX6_tell_65 : decode cX6_tell 65 = .ok (.astore 5, 2) := by decide +kernel
theorem dX6_tell_67 : decode cX6_tell 67 = .ok (.iload_n 2, 1) := by decide +kernel
theorem dX6_tell_68 : decode cX6_tell 68 = .ok (.iconst 1, 1) := by decide +kernel
theorem dX6_tell_69 : decode cX6_tell 69 = .ok (.if_icmp .ne 19, 3) := by decide +kernel
theorem dX6_tell_72 : decode cX6_tell 72 = .ok (.aload 5, 2) := by decide +kernel
theorem dX6_tell_74 : decode cX6_tell 74 = .ok (.getfield 161, 3) := by decide +kernel
theorem dX6_tell_77 : decode cX6_tell 77 = .ok (.istore 6, 2) := by decide +kernel
theorem dX6_tell_79 : decode cX6_tell 79 = .ok (.aload 5, 2) := by decide +kernel
theorem dX6_tell_81 : decode cX6_tell 81 = .ok (.iload_n 3, 1) := by decide +kernel
theorem dX6_tell_82 : decode cX6_tell 82 = .ok (.putfield 161, 3) := by decide +kernel
theorem dX6_tell_85 : decode cX6_tell 85 = .ok (.goto 37, 3) := by decide +kernel
theorem dX6_tell_88 : decode cX6_tell 88 = .ok (.iload_n 2, 1) := by decide +kernel
theorem dX6_tell_89 : decode cX6_tell 89 = .ok (.iconst 2, 1) := by decide +kernel
theorem dX6_tell_90 : decode cX6_tell 90 = .ok (.if_icmp .ne 19, 3) := by decide +kernel
theorem dX6_tell_93 : decode cX6_tell 93 = .ok (.aload 5, 2) := by decide +kernel
theorem dX6_tell_95 : decode cX6_tell 95 = .ok (.getfield 164, 3) := by decide +kernel
theorem dX6_tell_98 : decode cX6_tell 98 = .ok (.istore 6, 2) := by decide +kernel
theorem dX6_tell_100 : decode cX6_tell 100 = .ok (.aload 5, 2) := by decide +kernel
theorem dX6_tell_102 : decode cX6_tell 102 = .ok (.iload_n 3, 1) := by decide +kernel
theorem dX6_tell_103 : decode cX6_tell 103 = .ok (.putfield 164, 3) := by decide +kernel
theorem dX6_tell_106 : decode cX6_tell 106 = .ok (.goto 16, 3) := by decide +kernel
theorem dX6_tell_109 : decode cX6_tell 109 = .ok (.aload 5, 2) := by decide +kernel
theorem dX6_tell_111 : decode cX6_tell 111 = .ok (.getfield 167, 3) := by decide +kernel
theorem dX6_tell_114 : decode cX6_tell 114 = .ok (.istore 6, 2) := by decide +kernel
theorem dX6_tell_116 : decode cX6_tell 116 = .ok (.aload 5, 2) := by decide +kernel
theorem dX6_tell_118 : decode cX6_tell 118 = .ok (.iload_n 3, 1) := by decide +kernel
theorem dX6_tell_119 : decode cX6_tell 119 = .ok (.putfield 167, 3) := by decide +kernel
theorem dX6_tell_122 : decode cX6_tell 122 = .ok (.iload 6, 2) := by decide +kernel
theorem dX6_tell_124 : decode cX6_tell 124 = .ok (.ireturn, 1) := by decide +kernel
theorem dX6_keeps_0 : decode cX6_keeps 0 = .ok (.aload_n 0, 1) := by decide +kernel
theorem dX6_keeps_1 : decode cX6_keeps 1 = .ok (.iload_n 1, 1) := by decide +kernel
theorem dX6_keeps_2 : decode cX6_keeps 2 = .ok (.invokevirtual 149, 3) := by decide +kernel
theorem dX6_keeps_5 : decode cX6_keeps 5 = .ok (.ifCond .eq 16, 3) := by decide +kernel
theorem dX6_keeps_8 : decode cX6_keeps 8 = .ok (.iload_n 2, 1) := by decide +kernel
theorem dX6_keeps_9 : decode cX6_keeps 9 = .ok (.iconst (-1), 1) := by decide +kernel
theorem dX6_keeps_10 : decode cX6_keeps 10 = .ok (.if_icmp .eq 18, 3) := by decide +kernel
theorem dX6_keeps_13 : decode cX6_keeps 13 = .ok (.aload_n 0, 1) := by decide +kernel
theorem dX6_keeps_14 : decode cX6_keeps 14 = .ok (.iload_n 2, 1) := by decide +kernel
theorem dX6_keeps_15 : decode cX6_keeps 15 = .ok (.invokevirtual 94, 3) := by decide +kernel
theorem dX6_keeps_18 : decode cX6_keeps 18 = .ok (.ifCond .ne 10, 3) := by decide +kernel
theorem dX6_keeps_21 : decode cX6_keeps 21 = .ok (.aload_n 0, 1) := by decide +kernel
theorem dX6_keeps_22 : decode cX6_keeps 22 = .ok (.bipush (-11), 2) := by decide +kernel
theorem dX6_keeps_24 : decode cX6_keeps 24 = .ok (.invokevirtual 51, 3) := by decide +kernel
theorem dX6_keeps_27 : decode cX6_keeps 27 = .ok (.ireturn, 1) := by decide +kernel
theorem dX6_keeps_28 : decode cX6_keeps 28 = .ok (.aload_n 0, 1) := by decide +kernel
theorem dX6_keeps_29 : decode cX6_keeps 29 = .ok (.getfield 22, 3) := by decide +kernel
theorem dX6_keeps_32 : decode cX6_keeps 32 = .ok (.getfield 152, 3) := by decide +kernel
theorem dX6_keeps_35 : decode cX6_keeps 35 = .ok (.iload_n 1, 1) := by decide +kernel
theorem dX6_keeps_36 : decode cX6_keeps 36 = .ok (.aaload, 1) := by decide +kernel
theorem dX6_keeps_37 : decode cX6_keeps 37 = .ok (.getfield 173, 3) := by decide +kernel
theorem dX6_keeps_40 : decode cX6_keeps 40 = .ok (.istore_n 3, 1) := by decide +kernel
theorem dX6_keeps_41 : decode cX6_keeps 41 = .ok (.aload_n 0, 1) := by decide +kernel
theorem dX6_keeps_42 : decode cX6_keeps 42 = .ok (.getfield 22, 3) := by decide +kernel
theorem dX6_keeps_45 : decode cX6_keeps 45 = .ok (.getfield 152, 3) := by decide +kernel
theorem dX6_keeps_48 : decode cX6_keeps 48 = .ok (.iload_n 1, 1) := by decide +kernel
theorem dX6_keeps_49 : decode cX6_keeps 49 = .ok (.aaload, 1) := by decide +kernel
theorem dX6_keeps_50 : decode cX6_keeps 50 = .ok (.iload_n 2, 1) := by decide +kernel
theorem dX6_keeps_51 : decode cX6_keeps 51 = .ok (.putfield 173, 3) := by decide +kernel
theorem dX6_keeps_54 : decode cX6_keeps 54 = .ok (.iload_n 3, 1) := by decide +kernel
theorem dX6_keeps_55 : decode cX6_keeps 55 = .ok (.ireturn, 1) := by decide +kernel
theorem dX6_ask_0 : decode cX6_ask 0 = .ok (.iload_n 1, 1) := by decide +kernel
theorem dX6_ask_1 : decode cX6_ask 1 = .ok (.ifCond .ne 31, 3) := by decide +kernel
theorem dX6_ask_4 : decode cX6_ask 4 = .ok (.iload_n 2, 1) := by decide +kernel
theorem dX6_ask_5 : decode cX6_ask 5 = .ok (.ifCond .lt 27, 3) := by decide +kernel
theorem dX6_ask_8 : decode cX6_ask 8 = .ok (.iload_n 2, 1) := by decide +kernel
theorem dX6_ask_9 : decode cX6_ask 9 = .ok (.bipush 99, 2) := by decide +kernel
theorem dX6_ask_11 : decode cX6_ask 11 = .ok (.if_icmp .gt 21, 3) := by decide +kernel
theorem dX6_ask_14 : decode cX6_ask 14 = .ok (.aload_n 0, 1) := by decide +kernel
theorem dX6_ask_15 : decode cX6_ask 15 = .ok (.getfield 22, 3) := by decide +kernel
theorem dX6_ask_18 : decode cX6_ask 18 = .ok (.getfield 176, 3) := by decide +kernel
theorem dX6_ask_21 : decode cX6_ask 21 = .ok (.istore_n 3, 1) := by decide +kernel
theorem dX6_ask_22 : decode cX6_ask 22 = .ok (.aload_n 0, 1) := by decide +kernel
theorem dX6_ask_23 : decode cX6_ask 23 = .ok (.getfield 22, 3) := by decide +kernel
theorem dX6_ask_26 : decode cX6_ask 26 = .ok (.iload_n 2, 1) := by decide +kernel
theorem dX6_ask_27 : decode cX6_ask 27 = .ok (.putfield 176, 3) := by decide +kernel
theorem dX6_ask_30 : decode cX6_ask 30 = .ok (.iload_n 3, 1) := by decide +kernel
theorem dX6_ask_31 : decode cX6_ask 31 = .ok (.ireturn, 1) := by decide +kernel
theorem dX6_ask_32 : decode cX6_ask 32 = .ok (.iload_n 1, 1) := by decide +kernel
theorem dX6_ask_33 : decode cX6_ask 33 = .ok (.iconst 1, 1) := by decide +kernel
theorem dX6_ask_34 : decode cX6_ask 34 = .ok (.if_icmp .ne 32, 3) := by decide +kernel
theorem dX6_ask_37 : decode cX6_ask 37 = .ok (.iload_n 2, 1) := by decide +kernel
theorem dX6_ask_38 : decode cX6_ask 38 = .ok (.ifCond .lt 28, 3) := by decide +kernel
theorem dX6_ask_41 : decode cX6_ask 41 = .ok (.iload_n 2, 1) := by decide +kernel
theorem dX6_ask_42 : decode cX6_ask 42 = .ok (.sipush 9999, 3) := by decide +kernel
theorem dX6_ask_45 : decode cX6_ask 45 = .ok (.if_icmp .gt 21, 3) := by decide +kernel
theorem dX6_ask_48 : decode cX6_ask 48 = .ok (.aload_n 0, 1) := by decide +kernel
theorem dX6_ask_49 : decode cX6_ask 49 = .ok (.getfield 22, 3) := by decide +kernel
theorem dX6_ask_52 : decode cX6_ask 52 = .ok (.getfield 179, 3) := by decide +kernel
theorem dX6_ask_55 : decode cX6_ask 55 = .ok (.istore_n 3, 1) := by decide +kernel
theorem dX6_ask_56 : decode cX6_ask 56 = .ok (.aload_n 0, 1) := by decide +kernel
theorem dX6_ask_57 : decode cX6_ask 57 = .ok (.getfield 22, 3) := by decide +kernel
theorem dX6_ask_60 : decode cX6_ask 60 = .ok (.iload_n 2, 1) := by decide +kernel
theorem dX6_ask_61 : decode cX6_ask 61 = .ok (.putfield 179, 3) := by decide +kernel
theorem dX6_ask_64 : decode cX6_ask 64 = .ok (.iload_n 3, 1) := by decide +kernel
theorem dX6_ask_65 : decode cX6_ask 65 = .ok (.ireturn, 1) := by decide +kernel
theorem dX6_ask_66 : decode cX6_ask 66 = .ok (.aload_n 0, 1) := by decide +kernel
theorem dX6_ask_67 : decode cX6_ask 67 = .ok (.bipush (-6), 2) := by decide +kernel
theorem dX6_ask_69 : decode cX6_ask 69 = .ok (.invokevirtual 51, 3) := by decide +kernel
theorem dX6_ask_72 : decode cX6_ask 72 = .ok (.ireturn, 1) := by decide +kernel
theorem dX6_garden_0 : decode cX6_garden 0 = .ok (.aload_n 0, 1) := by decide +kernel
theorem dX6_garden_1 : decode cX6_garden 1 = .ok (.iload_n 1, 1) := by decide +kernel
theorem dX6_garden_2 : decode cX6_garden 2 = .ok (.invokevirtual 59, 3) := by decide +kernel
theorem dX6_garden_5 : decode cX6_garden 5 = .ok (.istore_n 2, 1) := by decide +kernel
theorem dX6_garden_6 : decode cX6_garden 6 = .ok (.iload_n 2, 1) := by decide +kernel
theorem dX6_garden_7 : decode cX6_garden 7 = .ok (.ifCond .eq 9, 3) := by decide +kernel
theorem dX6_garden_10 : decode cX6_garden 10 = .ok (.aload_n 0, 1) := by decide +kernel
theorem dX6_garden_11 : decode cX6_garden 11 = .ok (.iload_n 2, 1) := by decide +kernel
theorem dX6_garden_12 : decode cX6_garden 12 = .ok (.invokevirtual 51, 3) := by decide +kernel
theorem dX6_garden_15 : decode cX6_garden 15 = .ok (.ireturn, 1) := by decide +kernel
theorem dX6_garden_16 : decode cX6_garden 16 = .ok (.aload_n 0, 1) := by decide +kernel
theorem dX6_garden_17 : decode cX6_garden 17 = .ok (.getfield 35, 3) := by decide +kernel
theorem dX6_garden_20 : decode cX6_garden 20 = .ok (.aload_n 0, 1) := by decide +kernel
theorem dX6_garden_21 : decode cX6_garden 21 = .ok (.getfield 22, 3) := by decide +kernel
theorem dX6_garden_24 : decode cX6_garden 24 = .ok (.aload_n 0, 1) := by decide +kernel
theorem dX6_garden_25 : decode cX6_garden 25 = .ok (.getfield 11, 3) := by decide +kernel
theorem dX6_garden_28 : decode cX6_garden 28 = .ok (.iload_n 1, 1) := by decide +kernel
theorem dX6_garden_29 : decode cX6_garden 29 = .ok (.aaload, 1) := by decide +kernel
theorem dX6_garden_30 : decode cX6_garden 30 = .ok (.invokevirtual 182, 3) := by decide +kernel
theorem dX6_garden_33 : decode cX6_garden 33 = .ok (.istore_n 3, 1) := by decide +kernel
theorem dX6_garden_34 : decode cX6_garden 34 = .ok (.aload_n 0, 1) := by decide +kernel
theorem dX6_garden_35 : decode cX6_garden 35 = .ok (.getfield 35, 3) := by decide +kernel
theorem dX6_garden_38 : decode cX6_garden 38 = .ok (.getfield 186, 3) := by decide +kernel
theorem dX6_garden_41 : decode cX6_garden 41 = .ok (.iconst (-1), 1) := by decide +kernel
theorem dX6_garden_42 : decode cX6_garden 42 = .ok (.if_icmp .eq 10, 3) := by decide +kernel
theorem dX6_garden_45 : decode cX6_garden 45 = .ok (.aload_n 0, 1) := by decide +kernel
theorem dX6_garden_46 : decode cX6_garden 46 = .ok (.bipush (-6), 2) := by decide +kernel
theorem dX6_garden_48 : decode cX6_garden 48 = .ok (.invokevirtual 51, 3) := by decide +kernel
theorem dX6_garden_51 : decode cX6_garden 51 = .ok (.ireturn, 1) := by decide +kernel
theorem dX6_garden_52 : decode cX6_garden 52 = .ok (.aload_n 0, 1) := by decide +kernel
theorem dX6_garden_53 : decode cX6_garden 53 = .ok (.getfield 22, 3) := by decide +kernel
theorem dX6_garden_56 : decode cX6_garden 56 = .ok (.aload_n 0, 1) := by decide +kernel
theorem dX6_garden_57 : decode cX6_garden 57 = .ok (.getfield 35, 3) := by decide +kernel
theorem dX6_garden_60 : decode cX6_garden 60 = .ok (.getfield 189, 3) := by decide +kernel
theorem dX6_garden_63 : decode cX6_garden 63 = .ok (.invokevirtual 192, 3) := by decide +kernel
theorem dX6_garden_66 : decode cX6_garden 66 = .ok (.iload_n 3, 1) := by decide +kernel
theorem dX6_garden_67 : decode cX6_garden 67 = .ok (.ireturn, 1) := by decide +kernel
theorem dX6_fault_0 : decode cX6_fault 0 = .ok (.aload_n 0, 1) := by decide +kernel
theorem dX6_fault_1 : decode cX6_fault 1 = .ok (.getfield 35, 3) := by decide +kernel
theorem dX6_fault_4 : decode cX6_fault 4 = .ok (.getfield 186, 3) := by decide +kernel
theorem dX6_fault_7 : decode cX6_fault 7 = .ok (.ireturn, 1) := by decide +kernel
theorem dX6_may_0 : decode cX6_may 0 = .ok (.aload_n 0, 1) := by decide +kernel
theorem dX6_may_1 : decode cX6_may 1 = .ok (.iload_n 1, 1) := by decide +kernel
theorem dX6_may_2 : decode cX6_may 2 = .ok (.invokevirtual 149, 3) := by decide +kernel
theorem dX6_may_5 : decode cX6_may 5 = .ok (.ifCond .ne 9, 3) := by decide +kernel
theorem dX6_may_8 : decode cX6_may 8 = .ok (.aload_n 0, 1) := by decide +kernel
theorem dX6_may_9 : decode cX6_may 9 = .ok (.iconst (-1), 1) := by decide +kernel
theorem dX6_may_10 : decode cX6_may 10 = .ok (.invokevirtual 51, 3) := by decide +kernel
theorem dX6_may_13 : decode cX6_may 13 = .ok (.ireturn, 1) := by decide +kernel
theorem dX6_may_14 : decode cX6_may 14 = .ok (.iconst 0, 1) := by decide +kernel
theorem dX6_may_15 : decode cX6_may 15 = .ok (.istore_n 2, 1) := by decide +kernel
theorem dX6_may_16 : decode cX6_may 16 = .ok (.iconst 0, 1) := by decide +kernel
theorem dX6_may_17 : decode cX6_may 17 = .ok (.istore_n 3, 1) := by decide +kernel
theorem dX6_may_18 : decode cX6_may 18 = .ok (.iload_n 3, 1) := by decide +kernel
theorem dX6_may_19 : decode cX6_may 19 = .ok (.bipush 15, 2) := by decide +kernel
theorem dX6_may_21 : decode cX6_may 21 = .ok (.if_icmp .gt 27, 3) := by decide +kernel
theorem dX6_may_24 : decode cX6_may 24 = .ok (.aload_n 0, 1) := by decide +kernel
theorem dX6_may_25 : decode cX6_may 25 = .ok (.getfield 22, 3) := by decide +kernel
theorem dX6_may_28 : decode cX6_may 28 = .ok (.iload_n 1, 1) := by decide +kernel
theorem dX6_may_29 : decode cX6_may 29 = .ok (.iload_n 3, 1) := by decide +kernel
theorem dX6_may_30 : decode cX6_may 30 = .ok (.invokevirtual 196, 3) := by decide +kernel
theorem dX6_may_33 : decode cX6_may 33 = .ok (.ifCond .eq 9, 3) := by decide +kernel
theorem dX6_may_36 : decode cX6_may 36 = .ok (.iload_n 2, 1) := by decide +kernel
theorem dX6_may_37 : decode cX6_may 37 = .ok (.iconst 1, 1) := by decide +kernel
theorem dX6_may_38 : decode cX6_may 38 = .ok (.iload_n 3, 1) := by decide +kernel
theorem dX6_may_39 : decode cX6_may 39 = .ok (.ishl, 1) := by decide +kernel
theorem dX6_may_40 : decode cX6_may 40 = .ok (.ior, 1) := by decide +kernel
theorem dX6_may_41 : decode cX6_may 41 = .ok (.istore_n 2, 1) := by decide +kernel
theorem dX6_may_42 : decode cX6_may 42 = .ok (.iinc 3 1, 3) := by decide +kernel
theorem dX6_may_45 : decode cX6_may 45 = .ok (.goto (-27), 3) := by decide +kernel
theorem dX6_may_48 : decode cX6_may 48 = .ok (.iload_n 2, 1) := by decide +kernel
theorem dX6_may_49 : decode cX6_may 49 = .ok (.ireturn, 1) := by decide +kernel
theorem dX6_behind_0 : decode cX6_behind 0 = .ok (.aload_n 0, 1) := by decide +kernel
theorem dX6_behind_1 : decode cX6_behind 1 = .ok (.iload_n 3, 1) := by decide +kernel
theorem dX6_behind_2 : decode cX6_behind 2 = .ok (.invokevirtual 149, 3) := by decide +kernel
theorem dX6_behind_5 : decode cX6_behind 5 = .ok (.ifCond .ne 9, 3) := by decide +kernel
theorem dX6_behind_8 : decode cX6_behind 8 = .ok (.aload_n 0, 1) := by decide +kernel
theorem dX6_behind_9 : decode cX6_behind 9 = .ok (.iconst (-1), 1) := by decide +kernel
theorem dX6_behind_10 : decode cX6_behind 10 = .ok (.invokevirtual 51, 3) := by decide +kernel
theorem dX6_behind_13 : decode cX6_behind 13 = .ok (.ireturn, 1) := by decide +kernel
theorem dX6_behind_14 : decode cX6_behind 14 = .ok (.iload 4, 2) := by decide +kernel
theorem dX6_behind_16 : decode cX6_behind 16 = .ok (.iconst 1, 1) := by decide +kernel
theorem dX6_behind_17 : decode cX6_behind 17 = .ok (.if_icmp .eq 22, 3) := by decide +kernel
theorem dX6_behind_20 : decode cX6_behind 20 = .ok (.iload 4, 2) := by decide +kernel
theorem dX6_behind_22 : decode cX6_behind 22 = .ok (.iconst 2, 1) := by decide +kernel
theorem dX6_behind_23 : decode cX6_behind 23 = .ok (.if_icmp .eq 16, 3) := by decide +kernel
theorem dX6_behind_26 : decode cX6_behind 26 = .ok (.iload 4, 2) := by decide +kernel
theorem dX6_behind_28 : decode cX6_behind 28 = .ok (.iconst 4, 1) := by decide +kernel
theorem dX6_behind_29 : decode cX6_behind 29 = .ok (.if_icmp .eq 10, 3) := by decide +kernel
theorem dX6_behind_32 : decode cX6_behind 32 = .ok (.aload_n 0, 1) := by decide +kernel
theorem dX6_behind_33 : decode cX6_behind 33 = .ok (.bipush (-5), 2) := by decide +kernel
theorem dX6_behind_35 : decode cX6_behind 35 = .ok (.invokevirtual 51, 3) := by decide +kernel
theorem dX6_behind_38 : decode cX6_behind 38 = .ok (.ireturn, 1) := by decide +kernel
theorem dX6_behind_39 : decode cX6_behind 39 = .ok (.iload_n 1, 1) := by decide +kernel
theorem dX6_behind_40 : decode cX6_behind 40 = .ok (.invokestatic 199, 3) := by decide +kernel
theorem dX6_behind_43 : decode cX6_behind 43 = .ok (.ifCond .eq 10, 3) := by decide +kernel
theorem dX6_behind_46 : decode cX6_behind 46 = .ok (.iload_n 2, 1) := by decide +kernel
theorem dX6_behind_47 : decode cX6_behind 47 = .ok (.invokestatic 202, 3) := by decide +kernel
theorem dX6_behind_50 : decode cX6_behind 50 = .ok (.ifCond .ne 10, 3) := by decide +kernel
theorem dX6_behind_53 : decode cX6_behind 53 = .ok (.aload_n 0, 1) := by decide +kernel
theorem dX6_behind_54 : decode cX6_behind 54 = .ok (.bipush (-6), 2) := by decide +kernel
theorem dX6_behind_56 : decode cX6_behind 56 = .ok (.invokevirtual 51, 3) := by decide +kernel
theorem dX6_behind_59 : decode cX6_behind 59 = .ok (.ireturn, 1) := by decide +kernel
theorem dX6_behind_60 : decode cX6_behind 60 = .ok (.aload_n 0, 1) := by decide +kernel
theorem dX6_behind_61 : decode cX6_behind 61 = .ok (.iload_n 1, 1) := by decide +kernel
theorem dX6_behind_62 : decode cX6_behind 62 = .ok (.iload_n 2, 1) := by decide +kernel
theorem dX6_behind_63 : decode cX6_behind 63 = .ok (.invokevirtual 205, 3) := by decide +kernel
theorem dX6_behind_66 : decode cX6_behind 66 = .ok (.pop, 1) := by decide +kernel
theorem dX6_behind_67 : decode cX6_behind 67 = .ok (.aload_n 0, 1) := by decide +kernel
theorem dX6_behind_68 : decode cX6_behind 68 = .ok (.getfield 26, 3) := by decide +kernel
theorem dX6_behind_71 : decode cX6_behind 71 = .ok (.getfield 152, 3) := by decide +kernel
theorem dX6_behind_74 : decode cX6_behind 74 = .ok (.iload_n 3, 1) := by decide +kernel
theorem dX6_behind_75 : decode cX6_behind 75 = .ok (.aaload, 1) := by decide +kernel
theorem dX6_behind_76 : decode cX6_behind 76 = .ok (.astore 5, 2) := by decide +kernel
theorem dX6_behind_78 : decode cX6_behind 78 = .ok (.iload 4, 2) := by decide +kernel
theorem dX6_behind_80 : decode cX6_behind 80 = .ok (.iconst 1, 1) := by decide +kernel
theorem dX6_behind_81 : decode cX6_behind 81 = .ok (.if_icmp .ne 9, 3) := by decide +kernel
theorem dX6_behind_84 : decode cX6_behind 84 = .ok (.aload 5, 2) := by decide +kernel
theorem dX6_behind_86 : decode cX6_behind 86 = .ok (.getfield 161, 3) := by decide +kernel
theorem dX6_behind_89 : decode cX6_behind 89 = .ok (.ireturn, 1) := by decide +kernel
theorem dX6_behind_90 : decode cX6_behind 90 = .ok (.iload 4, 2) := by decide +kernel
theorem dX6_behind_92 : decode cX6_behind 92 = .ok (.iconst 2, 1) := by decide +kernel
theorem dX6_behind_93 : decode cX6_behind 93 = .ok (.if_icmp .ne 11, 3) := by decide +kernel
theorem dX6_behind_96 : decode cX6_behind 96 = .ok (.aload 5, 2) := by decide +kernel
theorem dX6_behind_98 : decode cX6_behind 98 = .ok (.getfield 164, 3) := by decide +kernel
theorem dX6_behind_101 : decode cX6_behind 101 = .ok (.goto 8, 3) := by decide +kernel
theorem dX6_behind_104 : decode cX6_behind 104 = .ok (.aload 5, 2) := by decide +kernel
theorem dX6_behind_106 : decode cX6_behind 106 = .ok (.getfield 170, 3) := by decide +kernel
theorem dX6_behind_109 : decode cX6_behind 109 = .ok (.ireturn, 1) := by decide +kernel
theorem dX6_asks_0 : decode cX6_asks 0 = .ok (.aload_n 0, 1) := by decide +kernel
theorem dX6_asks_1 : decode cX6_asks 1 = .ok (.iload_n 3, 1) := by decide +kernel
theorem dX6_asks_2 : decode cX6_asks 2 = .ok (.invokevirtual 94, 3) := by decide +kernel
theorem dX6_asks_5 : decode cX6_asks 5 = .ok (.ifCond .ne 9, 3) := by decide +kernel
theorem dX6_asks_8 : decode cX6_asks 8 = .ok (.aload_n 0, 1) := by decide +kernel
theorem dX6_asks_9 : decode cX6_asks 9 = .ok (.iconst (-1), 1) := by decide +kernel
theorem dX6_asks_10 : decode cX6_asks 10 = .ok (.invokevirtual 51, 3) := by decide +kernel
theorem dX6_asks_13 : decode cX6_asks 13 = .ok (.ireturn, 1) := by decide +kernel
theorem dX6_asks_14 : decode cX6_asks 14 = .ok (.iload_n 1, 1) := by decide +kernel
theorem dX6_asks_15 : decode cX6_asks 15 = .ok (.invokestatic 199, 3) := by decide +kernel
theorem dX6_asks_18 : decode cX6_asks 18 = .ok (.ifCond .eq 10, 3) := by decide +kernel
theorem dX6_asks_21 : decode cX6_asks 21 = .ok (.iload_n 2, 1) := by decide +kernel
theorem dX6_asks_22 : decode cX6_asks 22 = .ok (.invokestatic 202, 3) := by decide +kernel
theorem dX6_asks_25 : decode cX6_asks 25 = .ok (.ifCond .ne 10, 3) := by decide +kernel
theorem dX6_asks_28 : decode cX6_asks 28 = .ok (.aload_n 0, 1) := by decide +kernel
theorem dX6_asks_29 : decode cX6_asks 29 = .ok (.bipush (-6), 2) := by decide +kernel
theorem dX6_asks_31 : decode cX6_asks 31 = .ok (.invokevirtual 51, 3) := by decide +kernel
theorem dX6_asks_34 : decode cX6_asks 34 = .ok (.ireturn, 1) := by decide +kernel
theorem dX6_asks_35 : decode cX6_asks 35 = .ok (.aload_n 0, 1) := by decide +kernel
theorem dX6_asks_36 : decode cX6_asks 36 = .ok (.iload_n 1, 1) := by decide +kernel
theorem dX6_asks_37 : decode cX6_asks 37 = .ok (.iload_n 2, 1) := by decide +kernel
theorem dX6_asks_38 : decode cX6_asks 38 = .ok (.invokevirtual 205, 3) := by decide +kernel
theorem dX6_asks_41 : decode cX6_asks 41 = .ok (.pop, 1) := by decide +kernel
theorem dX6_asks_42 : decode cX6_asks 42 = .ok (.aload_n 0, 1) := by decide +kernel
theorem dX6_asks_43 : decode cX6_asks 43 = .ok (.getfield 26, 3) := by decide +kernel
theorem dX6_asks_46 : decode cX6_asks 46 = .ok (.getfield 104, 3) := by decide +kernel
theorem dX6_asks_49 : decode cX6_asks 49 = .ok (.iload_n 3, 1) := by decide +kernel
theorem dX6_asks_50 : decode cX6_asks 50 = .ok (.aaload, 1) := by decide +kernel
theorem dX6_asks_51 : decode cX6_asks 51 = .ok (.invokevirtual 145, 3) := by decide +kernel
theorem dX6_asks_54 : decode cX6_asks 54 = .ok (.ireturn, 1) := by decide +kernel
theorem dX6_deals_0 : decode cX6_deals 0 = .ok (.iload_n 3, 1) := by decide +kernel
theorem dX6_deals_1 : decode cX6_deals 1 = .ok (.ifCond .eq 15, 3) := by decide +kernel
theorem dX6_deals_4 : decode cX6_deals 4 = .ok (.iload_n 3, 1) := by decide +kernel
theorem dX6_deals_5 : decode cX6_deals 5 = .ok (.iconst 1, 1) := by decide +kernel
theorem dX6_deals_6 : decode cX6_deals 6 = .ok (.if_icmp .eq 10, 3) := by decide +kernel
theorem dX6_deals_9 : decode cX6_deals 9 = .ok (.aload_n 0, 1) := by decide +kernel
theorem dX6_deals_10 : decode cX6_deals 10 = .ok (.bipush (-5), 2) := by decide +kernel
theorem dX6_deals_12 : decode cX6_deals 12 = .ok (.invokevirtual 51, 3) := by decide +kernel
theorem dX6_deals_15 : decode cX6_deals 15 = .ok (.ireturn, 1) := by decide +kernel
theorem dX6_deals_16 : decode cX6_deals 16 = .ok (.iload_n 1, 1) := by decide +kernel
theorem dX6_deals_17 : decode cX6_deals 17 = .ok (.invokestatic 199, 3) := by decide +kernel
theorem dX6_deals_20 : decode cX6_deals 20 = .ok (.ifCond .eq 10, 3) := by decide +kernel
theorem dX6_deals_23 : decode cX6_deals 23 = .ok (.iload_n 2, 1) := by decide +kernel
theorem dX6_deals_24 : decode cX6_deals 24 = .ok (.invokestatic 202, 3) := by decide +kernel
theorem dX6_deals_27 : decode cX6_deals 27 = .ok (.ifCond .ne 10, 3) := by decide +kernel
theorem dX6_deals_30 : decode cX6_deals 30 = .ok (.aload_n 0, 1) := by decide +kernel
theorem dX6_deals_31 : decode cX6_deals 31 = .ok (.bipush (-6), 2) := by decide +kernel
theorem dX6_deals_33 : decode cX6_deals 33 = .ok (.invokevirtual 51, 3) := by decide +kernel
theorem dX6_deals_36 : decode cX6_deals 36 = .ok (.ireturn, 1) := by decide +kernel
theorem dX6_deals_37 : decode cX6_deals 37 = .ok (.aload_n 0, 1) := by decide +kernel
theorem dX6_deals_38 : decode cX6_deals 38 = .ok (.iload_n 1, 1) := by decide +kernel
theorem dX6_deals_39 : decode cX6_deals 39 = .ok (.iload_n 2, 1) := by decide +kernel
theorem dX6_deals_40 : decode cX6_deals 40 = .ok (.invokevirtual 205, 3) := by decide +kernel
theorem dX6_deals_43 : decode cX6_deals 43 = .ok (.istore 4, 2) := by decide +kernel
theorem dX6_deals_45 : decode cX6_deals 45 = .ok (.iload_n 3, 1) := by decide +kernel
theorem dX6_deals_46 : decode cX6_deals 46 = .ok (.ifCond .ne 8, 3) := by decide +kernel
theorem dX6_deals_49 : decode cX6_deals 49 = .ok (.iload 4, 2) := by decide +kernel
theorem dX6_deals_51 : decode cX6_deals 51 = .ok (.goto 10, 3) := by decide +kernel
theorem dX6_deals_54 : decode cX6_deals 54 = .ok (.aload_n 0, 1) := by decide +kernel
theorem dX6_deals_55 : decode cX6_deals 55 = .ok (.getfield 26, 3) := by decide +kernel
theorem dX6_deals_58 : decode cX6_deals 58 = .ok (.getfield 208, 3) := by decide +kernel
theorem dX6_deals_61 : decode cX6_deals 61 = .ok (.ireturn, 1) := by decide +kernel
theorem dX6_runs_0 : decode cX6_runs 0 = .ok (.aload_n 0, 1) := by decide +kernel
theorem dX6_runs_1 : decode cX6_runs 1 = .ok (.iload_n 3, 1) := by decide +kernel
theorem dX6_runs_2 : decode cX6_runs 2 = .ok (.invokevirtual 94, 3) := by decide +kernel
theorem dX6_runs_5 : decode cX6_runs 5 = .ok (.ifCond .ne 10, 3) := by decide +kernel
theorem dX6_runs_8 : decode cX6_runs 8 = .ok (.aload_n 0, 1) := by decide +kernel
theorem dX6_runs_9 : decode cX6_runs 9 = .ok (.bipush (-11), 2) := by decide +kernel
theorem dX6_runs_11 : decode cX6_runs 11 = .ok (.invokevirtual 51, 3) := by decide +kernel
theorem dX6_runs_14 : decode cX6_runs 14 = .ok (.ireturn, 1) := by decide +kernel
theorem dX6_runs_15 : decode cX6_runs 15 = .ok (.iload_n 1, 1) := by decide +kernel
theorem dX6_runs_16 : decode cX6_runs 16 = .ok (.invokestatic 199, 3) := by decide +kernel
theorem dX6_runs_19 : decode cX6_runs 19 = .ok (.ifCond .eq 10, 3) := by decide +kernel
theorem dX6_runs_22 : decode cX6_runs 22 = .ok (.iload_n 2, 1) := by decide +kernel
theorem dX6_runs_23 : decode cX6_runs 23 = .ok (.invokestatic 202, 3) := by decide +kernel
theorem dX6_runs_26 : decode cX6_runs 26 = .ok (.ifCond .ne 10, 3) := by decide +kernel
theorem dX6_runs_29 : decode cX6_runs 29 = .ok (.aload_n 0, 1) := by decide +kernel
theorem dX6_runs_30 : decode cX6_runs 30 = .ok (.bipush (-16), 2) := by decide +kernel
theorem dX6_runs_32 : decode cX6_runs 32 = .ok (.invokevirtual 51, 3) := by decide +kernel
theorem dX6_runs_35 : decode cX6_runs 35 = .ok (.ireturn, 1) := by decide +kernel
theorem dX6_runs_36 : decode cX6_runs 36 = .ok (.aload_n 0, 1) := by decide +kernel
theorem dX6_runs_37 : decode cX6_runs 37 = .ok (.iload_n 1, 1) := by decide +kernel
theorem dX6_runs_38 : decode cX6_runs 38 = .ok (.iload_n 2, 1) := by decide +kernel
theorem dX6_runs_39 : decode cX6_runs 39 = .ok (.invokevirtual 205, 3) := by decide +kernel
theorem dX6_runs_42 : decode cX6_runs 42 = .ok (.pop, 1) := by decide +kernel
theorem dX6_runs_43 : decode cX6_runs 43 = .ok (.aload_n 0, 1) := by decide +kernel
theorem dX6_runs_44 : decode cX6_runs 44 = .ok (.getfield 26, 3) := by decide +kernel
theorem dX6_runs_47 : decode cX6_runs 47 = .ok (.getfield 104, 3) := by decide +kernel
theorem dX6_runs_50 : decode cX6_runs 50 = .ok (.iload_n 3, 1) := by decide +kernel
theorem dX6_runs_51 : decode cX6_runs 51 = .ok (.aaload, 1) := by decide +kernel
theorem dX6_runs_52 : decode cX6_runs 52 = .ok (.invokevirtual 145, 3) := by decide +kernel
theorem dX6_runs_55 : decode cX6_runs 55 = .ok (.aload_n 0, 1) := by decide +kernel
theorem dX6_runs_56 : decode cX6_runs 56 = .ok (.getfield 22, 3) := by decide +kernel
theorem dX6_runs_59 : decode cX6_runs 59 = .ok (.getfield 104, 3) := by decide +kernel
theorem dX6_runs_62 : decode cX6_runs 62 = .ok (.iload_n 3, 1) := by decide +kernel
theorem dX6_runs_63 : decode cX6_runs 63 = .ok (.aaload, 1) := by decide +kernel
theorem dX6_runs_64 : decode cX6_runs 64 = .ok (.invokevirtual 145, 3) := by decide +kernel
theorem dX6_runs_67 : decode cX6_runs 67 = .ok (.invokestatic 211, 3) := by decide +kernel
theorem dX6_runs_70 : decode cX6_runs 70 = .ok (.ireturn, 1) := by decide +kernel
theorem dX6_settles_0 : decode cX6_settles 0 = .ok (.iload_n 2, 1) := by decide +kernel
theorem dX6_settles_1 : decode cX6_settles 1 = .ok (.ifCond .eq 15, 3) := by decide +kernel
theorem dX6_settles_4 : decode cX6_settles 4 = .ok (.iload_n 2, 1) := by decide +kernel
theorem dX6_settles_5 : decode cX6_settles 5 = .ok (.iconst 1, 1) := by decide +kernel
theorem dX6_settles_6 : decode cX6_settles 6 = .ok (.if_icmp .eq 10, 3) := by decide +kernel
theorem dX6_settles_9 : decode cX6_settles 9 = .ok (.aload_n 0, 1) := by decide +kernel
theorem dX6_settles_10 : decode cX6_settles 10 = .ok (.bipush (-15), 2) := by decide +kernel
theorem dX6_settles_12 : decode cX6_settles 12 = .ok (.invokevirtual 51, 3) := by decide +kernel
theorem dX6_settles_15 : decode cX6_settles 15 = .ok (.ireturn, 1) := by decide +kernel
theorem dX6_settles_16 : decode cX6_settles 16 = .ok (.iload_n 1, 1) := by decide +kernel
theorem dX6_settles_17 : decode cX6_settles 17 = .ok (.invokestatic 199, 3) := by decide +kernel
theorem dX6_settles_20 : decode cX6_settles 20 = .ok (.ifCond .ne 10, 3) := by decide +kernel
theorem dX6_settles_23 : decode cX6_settles 23 = .ok (.aload_n 0, 1) := by decide +kernel
theorem dX6_settles_24 : decode cX6_settles 24 = .ok (.bipush (-16), 2) := by decide +kernel
theorem dX6_settles_26 : decode cX6_settles 26 = .ok (.invokevirtual 51, 3) := by decide +kernel
theorem dX6_settles_29 : decode cX6_settles 29 = .ok (.ireturn, 1) := by decide +kernel
theorem dX6_settles_30 : decode cX6_settles 30 = .ok (.iload_n 2, 1) := by decide +kernel
theorem dX6_settles_31 : decode cX6_settles 31 = .ok (.ifCond .ne 11, 3) := by decide +kernel
theorem dX6_settles_34 : decode cX6_settles 34 = .ok (.aload_n 0, 1) := by decide +kernel
theorem dX6_settles_35 : decode cX6_settles 35 = .ok (.iload_n 1, 1) := by decide +kernel
theorem dX6_settles_36 : decode cX6_settles 36 = .ok (.invokevirtual 216, 3) := by decide +kernel
theorem dX6_settles_39 : decode cX6_settles 39 = .ok (.goto 8, 3) := by decide +kernel
theorem dX6_settles_42 : decode cX6_settles 42 = .ok (.aload_n 0, 1) := by decide +kernel
theorem dX6_settles_43 : decode cX6_settles 43 = .ok (.iload_n 1, 1) := by decide +kernel
theorem dX6_settles_44 : decode cX6_settles 44 = .ok (.invokevirtual 219, 3) := by decide +kernel
theorem dX6_settles_47 : decode cX6_settles 47 = .ok (.ireturn, 1) := by decide +kernel
theorem dX6_picked_0 : decode cX6_picked 0 = .ok (.aload_n 0, 1) := by decide +kernel
theorem dX6_picked_1 : decode cX6_picked 1 = .ok (.iload_n 1, 1) := by decide +kernel
theorem dX6_picked_2 : decode cX6_picked 2 = .ok (.invokevirtual 149, 3) := by decide +kernel
theorem dX6_picked_5 : decode cX6_picked 5 = .ok (.ifCond .eq 11, 3) := by decide +kernel
theorem dX6_picked_8 : decode cX6_picked 8 = .ok (.aload_n 0, 1) := by decide +kernel
theorem dX6_picked_9 : decode cX6_picked 9 = .ok (.iload_n 2, 1) := by decide +kernel
theorem dX6_picked_10 : decode cX6_picked 10 = .ok (.invokevirtual 94, 3) := by decide +kernel
theorem dX6_picked_13 : decode cX6_picked 13 = .ok (.ifCond .ne 9, 3) := by decide +kernel
theorem dX6_picked_16 : decode cX6_picked 16 = .ok (.aload_n 0, 1) := by decide +kernel
theorem dX6_picked_17 : decode cX6_picked 17 = .ok (.iconst (-1), 1) := by decide +kernel
theorem dX6_picked_18 : decode cX6_picked 18 = .ok (.invokevirtual 51, 3) := by decide +kernel
theorem dX6_picked_21 : decode cX6_picked 21 = .ok (.ireturn, 1) := by decide +kernel
theorem dX6_picked_22 : decode cX6_picked 22 = .ok (.aload_n 0, 1) := by decide +kernel
theorem dX6_picked_23 : decode cX6_picked 23 = .ok (.getfield 22, 3) := by decide +kernel
theorem dX6_picked_26 : decode cX6_picked 26 = .ok (.getfield 152, 3) := by decide +kernel
theorem dX6_picked_29 : decode cX6_picked 29 = .ok (.iload_n 1, 1) := by decide +kernel
theorem dX6_picked_30 : decode cX6_picked 30 = .ok (.aaload, 1) := by decide +kernel
theorem dX6_picked_31 : decode cX6_picked 31 = .ok (.getfield 156, 3) := by decide +kernel
theorem dX6_picked_34 : decode cX6_picked 34 = .ok (.istore_n 3, 1) := by decide +kernel
theorem dX6_picked_35 : decode cX6_picked 35 = .ok (.aload_n 0, 1) := by decide +kernel
theorem dX6_picked_36 : decode cX6_picked 36 = .ok (.getfield 22, 3) := by decide +kernel
theorem dX6_picked_39 : decode cX6_picked 39 = .ok (.getfield 104, 3) := by decide +kernel
theorem dX6_picked_42 : decode cX6_picked 42 = .ok (.iload_n 2, 1) := by decide +kernel
theorem dX6_picked_43 : decode cX6_picked 43 = .ok (.aaload, 1) := by decide +kernel
theorem dX6_picked_44 : decode cX6_picked 44 = .ok (.invokevirtual 145, 3) := by decide +kernel
theorem dX6_picked_47 : decode cX6_picked 47 = .ok (.istore 4, 2) := by decide +kernel
theorem dX6_picked_49 : decode cX6_picked 49 = .ok (.iload_n 3, 1) := by decide +kernel
theorem dX6_picked_50 : decode cX6_picked 50 = .ok (.iconst 1, 1) := by decide +kernel
theorem dX6_picked_51 : decode cX6_picked 51 = .ok (.if_icmp .ge 7, 3) := by decide +kernel
theorem dX6_picked_54 : decode cX6_picked 54 = .ok (.iconst 0, 1) := by decide +kernel
theorem dX6_picked_55 : decode cX6_picked 55 = .ok (.goto 11, 3) := by decide +kernel
theorem dX6_picked_58 : decode cX6_picked 58 = .ok (.iload 4, 2) := by decide +kernel
theorem dX6_picked_60 : decode cX6_picked 60 = .ok (.iload_n 3, 1) := by decide +kernel
theorem dX6_picked_61 : decode cX6_picked 61 = .ok (.iadd, 1) := by decide +kernel
theorem dX6_picked_62 : decode cX6_picked 62 = .ok (.iconst 1, 1) := by decide +kernel
theorem dX6_picked_63 : decode cX6_picked 63 = .ok (.isub, 1) := by decide +kernel
theorem dX6_picked_64 : decode cX6_picked 64 = .ok (.iload_n 3, 1) := by decide +kernel
theorem dX6_picked_65 : decode cX6_picked 65 = .ok (.idiv, 1) := by decide +kernel
theorem dX6_picked_66 : decode cX6_picked 66 = .ok (.ireturn, 1) := by decide +kernel
theorem dX6_cheapest_0 : decode cX6_cheapest 0 = .ok (.aload_n 0, 1) := by decide +kernel
theorem dX6_cheapest_1 : decode cX6_cheapest 1 = .ok (.getfield 22, 3) := by decide +kernel
theorem dX6_cheapest_4 : decode cX6_cheapest 4 = .ok (.getfield 116, 3) := by decide +kernel
theorem dX6_cheapest_7 : decode cX6_cheapest 7 = .ok (.ifCond .ne 10, 3) := by decide +kernel
theorem dX6_cheapest_10 : decode cX6_cheapest 10 = .ok (.aload_n 0, 1) := by decide +kernel
theorem dX6_cheapest_11 : decode cX6_cheapest 11 = .ok (.bipush (-5), 2) := by decide +kernel
theorem dX6_cheapest_13 : decode cX6_cheapest 13 = .ok (.invokevirtual 51, 3) := by decide +kernel
theorem dX6_cheapest_16 : decode cX6_cheapest 16 = .ok (.ireturn, 1) := by decide +kernel
theorem dX6_cheapest_17 : decode cX6_cheapest 17 = .ok (.iconst 0, 1) := by decide +kernel
theorem dX6_cheapest_18 : decode cX6_cheapest 18 = .ok (.istore_n 1, 1) := by decide +kernel
theorem dX6_cheapest_19 : decode cX6_cheapest 19 = .ok (.iconst 1, 1) := by decide +kernel
theorem dX6_cheapest_20 : decode cX6_cheapest 20 = .ok (.istore_n 2, 1) := by decide +kernel
theorem dX6_cheapest_21 : decode cX6_cheapest 21 = .ok (.iload_n 2, 1) := by decide +kernel
theorem dX6_cheapest_22 : decode cX6_cheapest 22 = .ok (.aload_n 0, 1) := by decide +kernel
theorem dX6_cheapest_23 : decode cX6_cheapest 23 = .ok (.getfield 22, 3) := by decide +kernel
theorem dX6_cheapest_26 : decode cX6_cheapest 26 = .ok (.getfield 116, 3) := by decide +kernel
theorem dX6_cheapest_29 : decode cX6_cheapest 29 = .ok (.if_icmp .ge 38, 3) := by decide +kernel
theorem dX6_cheapest_32 : decode cX6_cheapest 32 = .ok (.aload_n 0, 1) := by decide +kernel
theorem dX6_cheapest_33 : decode cX6_cheapest 33 = .ok (.getfield 22, 3) := by decide +kernel
theorem dX6_cheapest_36 : decode cX6_cheapest 36 = .ok (.getfield 104, 3) := by decide +kernel
theorem dX6_cheapest_39 : decode cX6_cheapest 39 = .ok (.iload_n 2, 1) := by decide +kernel
theorem dX6_cheapest_40 : decode cX6_cheapest 40 = .ok (.aaload, 1) := by decide +kernel
theorem dX6_cheapest_41 : decode cX6_cheapest 41 = .ok (.invokevirtual 145, 3) := by decide +kernel
theorem dX6_cheapest_44 : decode cX6_cheapest 44 = .ok (.aload_n 0, 1) := by decide +kernel
theorem dX6_cheapest_45 : decode cX6_cheapest 45 = .ok (.getfield 22, 3) := by decide +kernel
theorem dX6_cheapest_48 : decode cX6_cheapest 48 = .ok (.getfield 104, 3) := by decide +kernel
theorem dX6_cheapest_51 : decode cX6_cheapest 51 = .ok (.iload_n 1, 1) := by decide +kernel
theorem dX6_cheapest_52 : decode cX6_cheapest 52 = .ok (.aaload, 1) := by decide +kernel
theorem dX6_cheapest_53 : decode cX6_cheapest 53 = .ok (.invokevirtual 145, 3) := by decide +kernel
theorem dX6_cheapest_56 : decode cX6_cheapest 56 = .ok (.if_icmp .ge 5, 3) := by decide +kernel
theorem dX6_cheapest_59 : decode cX6_cheapest 59 = .ok (.iload_n 2, 1) := by decide +kernel
theorem dX6_cheapest_60 : decode cX6_cheapest 60 = .ok (.istore_n 1, 1) := by decide +kernel
theorem dX6_cheapest_61 : decode cX6_cheapest 61 = .ok (.iinc 2 1, 3) := by decide +kernel
theorem dX6_cheapest_64 : decode cX6_cheapest 64 = .ok (.goto (-43), 3) := by decide +kernel
theorem dX6_cheapest_67 : decode cX6_cheapest 67 = .ok (.iload_n 1, 1) := by decide +kernel
theorem dX6_cheapest_68 : decode cX6_cheapest 68 = .ok (.ireturn, 1) := by decide +kernel
theorem dX6_money_0 : decode cX6_money 0 = .ok (.iload_n 1, 1) := by decide +kernel
theorem dX6_money_1 : decode cX6_money 1 = .ok (.invokestatic 202, 3) := by decide +kernel
theorem dX6_money_4 : decode cX6_money 4 = .ok (.ifCond .ne 10, 3) := by decide +kernel
theorem dX6_money_7 : decode cX6_money 7 = .ok (.aload_n 0, 1) := by decide +kernel
theorem dX6_money_8 : decode cX6_money 8 = .ok (.bipush (-6), 2) := by decide +kernel
theorem dX6_money_10 : decode cX6_money 10 = .ok (.invokevirtual 51, 3) := by decide +kernel
theorem dX6_money_13 : decode cX6_money 13 = .ok (.ireturn, 1) := by decide +kernel
theorem dX6_money_14 : decode cX6_money 14 = .ok (.aload_n 0, 1) := by decide +kernel
theorem dX6_money_15 : decode cX6_money 15 = .ok (.iconst 0, 1) := by decide +kernel
theorem dX6_money_16 : decode cX6_money 16 = .ok (.iload_n 1, 1) := by decide +kernel
theorem dX6_money_17 : decode cX6_money 17 = .ok (.invokevirtual 205, 3) := by decide +kernel
theorem dX6_money_20 : decode cX6_money 20 = .ok (.istore_n 2, 1) := by decide +kernel
theorem dX6_money_21 : decode cX6_money 21 = .ok (.aload_n 0, 1) := by decide +kernel
theorem dX6_money_22 : decode cX6_money 22 = .ok (.iconst 2, 1) := by decide +kernel
theorem dX6_money_23 : decode cX6_money 23 = .ok (.iload_n 1, 1) := by decide +kernel
theorem dX6_money_24 : decode cX6_money 24 = .ok (.invokevirtual 205, 3) := by decide +kernel
theorem dX6_money_27 : decode cX6_money 27 = .ok (.istore_n 3, 1) := by decide +kernel
theorem dX6_money_28 : decode cX6_money 28 = .ok (.iconst 0, 1) := by decide +kernel
theorem dX6_money_29 : decode cX6_money 29 = .ok (.istore 4, 2) := by decide +kernel
theorem dX6_money_31 : decode cX6_money 31 = .ok (.iconst 0, 1) := by decide +kernel
theorem dX6_money_32 : decode cX6_money 32 = .ok (.istore 5, 2) := by decide +kernel
theorem dX6_money_34 : decode cX6_money 34 = .ok (.iload 5, 2) := by decide +kernel
theorem dX6_money_36 : decode cX6_money 36 = .ok (.aload_n 0, 1) := by decide +kernel
theorem dX6_money_37 : decode cX6_money 37 = .ok (.getfield 22, 3) := by decide +kernel
theorem dX6_money_40 : decode cX6_money 40 = .ok (.getfield 123, 3) := by decide +kernel
theorem dX6_money_43 : decode cX6_money 43 = .ok (.if_icmp .ge 27, 3) := by decide +kernel
theorem dX6_money_46 : decode cX6_money 46 = .ok (.iload 4, 2) := by decide +kernel
theorem dX6_money_48 : decode cX6_money 48 = .ok (.aload_n 0, 1) := by decide +kernel
theorem dX6_money_49 : decode cX6_money 49 = .ok (.getfield 22, 3) := by decide +kernel
theorem dX6_money_52 : decode cX6_money 52 = .ok (.getfield 152, 3) := by decide +kernel
theorem dX6_money_55 : decode cX6_money 55 = .ok (.iload 5, 2) := by decide +kernel
theorem dX6_money_57 : decode cX6_money 57 = .ok (.aaload, 1) := by decide +kernel
theorem dX6_money_58 : decode cX6_money 58 = .ok (.getfield 167, 3) := by decide +kernel
theorem dX6_money_61 : decode cX6_money 61 = .ok (.iadd, 1) := by decide +kernel
theorem dX6_money_62 : decode cX6_money 62 = .ok (.istore 4, 2) := by decide +kernel
theorem dX6_money_64 : decode cX6_money 64 = .ok (.iinc 5 1, 3) := by decide +kernel
theorem dX6_money_67 : decode cX6_money 67 = .ok (.goto (-33), 3) := by decide +kernel
theorem dX6_money_70 : decode cX6_money 70 = .ok (.iload_n 2, 1) := by decide +kernel
theorem dX6_money_71 : decode cX6_money 71 = .ok (.iload_n 3, 1) := by decide +kernel
theorem dX6_money_72 : decode cX6_money 72 = .ok (.if_icmp .lt 11, 3) := by decide +kernel
theorem dX6_money_75 : decode cX6_money 75 = .ok (.iload_n 2, 1) := by decide +kernel
theorem dX6_money_76 : decode cX6_money 76 = .ok (.iload 4, 2) := by decide +kernel
theorem dX6_money_78 : decode cX6_money 78 = .ok (.if_icmp .lt 5, 3) := by decide +kernel
theorem dX6_money_81 : decode cX6_money 81 = .ok (.iconst 0, 1) := by decide +kernel
theorem dX6_money_82 : decode cX6_money 82 = .ok (.ireturn, 1) := by decide +kernel
theorem dX6_money_83 : decode cX6_money 83 = .ok (.iload_n 3, 1) := by decide +kernel
theorem dX6_money_84 : decode cX6_money 84 = .ok (.iload 4, 2) := by decide +kernel
theorem dX6_money_86 : decode cX6_money 86 = .ok (.if_icmp .lt 7, 3) := by decide +kernel
theorem dX6_money_89 : decode cX6_money 89 = .ok (.iconst 1, 1) := by decide +kernel
theorem dX6_money_90 : decode cX6_money 90 = .ok (.goto 4, 3) := by decide +kernel
theorem dX6_money_93 : decode cX6_money 93 = .ok (.iconst 2, 1) := by decide +kernel
theorem dX6_money_94 : decode cX6_money 94 = .ok (.ireturn, 1) := by decide +kernel
theorem dX6_inked_0 : decode cX6_inked 0 = .ok (.iload_n 1, 1) := by decide +kernel
theorem dX6_inked_1 : decode cX6_inked 1 = .ok (.ifCond .lt 9, 3) := by decide +kernel
theorem dX6_inked_4 : decode cX6_inked 4 = .ok (.iload_n 1, 1) := by decide +kernel
theorem dX6_inked_5 : decode cX6_inked 5 = .ok (.bipush 60, 2) := by decide +kernel
theorem dX6_inked_7 : decode cX6_inked 7 = .ok (.if_icmp .le 10, 3) := by decide +kernel
theorem dX6_inked_10 : decode cX6_inked 10 = .ok (.aload_n 0, 1) := by decide +kernel
theorem dX6_inked_11 : decode cX6_inked 11 = .ok (.bipush (-6), 2) := by decide +kernel
theorem dX6_inked_13 : decode cX6_inked 13 = .ok (.invokevirtual 51, 3) := by decide +kernel
theorem dX6_inked_16 : decode cX6_inked 16 = .ok (.ireturn, 1) := by decide +kernel
theorem dX6_inked_17 : decode cX6_inked 17 = .ok (.iconst 0, 1) := by decide +kernel
theorem dX6_inked_18 : decode cX6_inked 18 = .ok (.istore_n 2, 1) := by decide +kernel
theorem dX6_inked_19 : decode cX6_inked 19 = .ok (.iconst (-1), 1) := by decide +kernel
theorem dX6_inked_20 : decode cX6_inked 20 = .ok (.istore_n 3, 1) := by decide +kernel
theorem dX6_inked_21 : decode cX6_inked 21 = .ok (.iconst 0, 1) := by decide +kernel
theorem dX6_inked_22 : decode cX6_inked 22 = .ok (.istore 4, 2) := by decide +kernel
theorem dX6_inked_24 : decode cX6_inked 24 = .ok (.iload 4, 2) := by decide +kernel
theorem dX6_inked_26 : decode cX6_inked 26 = .ok (.bipush 20, 2) := by decide +kernel
theorem dX6_inked_28 : decode cX6_inked 28 = .ok (.if_icmp .gt 76, 3) := by decide +kernel
theorem dX6_inked_31 : decode cX6_inked 31 = .ok (.aload_n 0, 1) := by decide +kernel
theorem dX6_inked_32 : decode cX6_inked 32 = .ok (.getfield 26, 3) := by decide +kernel
theorem dX6_inked_35 : decode cX6_inked 35 = .ok (.aload_n 0, 1) := by decide +kernel
theorem dX6_inked_36 : decode cX6_inked 36 = .ok (.getfield 22, 3) := by decide +kernel
theorem dX6_inked_39 : decode cX6_inked 39 = .ok (.invokevirtual 192, 3) := by decide +kernel
theorem dX6_inked_42 : decode cX6_inked 42 = .ok (.aload_n 0, 1) := by decide +kernel
theorem dX6_inked_43 : decode cX6_inked 43 = .ok (.getfield 26, 3) := by decide +kernel
theorem dX6_inked_46 : decode cX6_inked 46 = .ok (.iload 4, 2) := by decide +kernel
theorem dX6_inked_48 : decode cX6_inked 48 = .ok (.putfield 176, 3) := by decide +kernel
theorem dX6_inked_51 : decode cX6_inked 51 = .ok (.aload_n 0, 1) := by decide +kernel
theorem dX6_inked_52 : decode cX6_inked 52 = .ok (.getfield 26, 3) := by decide +kernel
theorem dX6_inked_55 : decode cX6_inked 55 = .ok (.iconst 2, 1) := by decide +kernel
theorem dX6_inked_56 : decode cX6_inked 56 = .ok (.iload_n 1, 1) := by decide +kernel
theorem dX6_inked_57 : decode cX6_inked 57 = .ok (.invokevirtual 222, 3) := by decide +kernel
theorem dX6_inked_60 : decode cX6_inked 60 = .ok (.aload_n 0, 1) := by decide +kernel
theorem dX6_inked_61 : decode cX6_inked 61 = .ok (.getfield 26, 3) := by decide +kernel
theorem dX6_inked_64 : decode cX6_inked 64 = .ok (.getfield 225, 3) := by decide +kernel
theorem dX6_inked_67 : decode cX6_inked 67 = .ok (.aload_n 0, 1) := by decide +kernel
theorem dX6_inked_68 : decode cX6_inked 68 = .ok (.getfield 22, 3) := by decide +kernel
theorem dX6_inked_71 : decode cX6_inked 71 = .ok (.getfield 225, 3) := by decide +kernel
theorem dX6_inked_74 : decode cX6_inked 74 = .ok (.isub, 1) := by decide +kernel
theorem dX6_inked_75 : decode cX6_inked 75 = .ok (.iload_n 3, 1) := by decide +kernel
theorem dX6_inked_76 : decode cX6_inked 76 = .ok (.if_icmp .le 22, 3) := by decide +kernel
theorem dX6_inked_79 : decode cX6_inked 79 = .ok (.aload_n 0, 1) := by decide +kernel
theorem dX6_inked_80 : decode cX6_inked 80 = .ok (.getfield 26, 3) := by decide +kernel
theorem dX6_inked_83 : decode cX6_inked 83 = .ok (.getfield 225, 3) := by decide +kernel
theorem dX6_inked_86 : decode cX6_inked 86 = .ok (.aload_n 0, 1) := by decide +kernel
theorem dX6_inked_87 : decode cX6_inked 87 = .ok (.getfield 22, 3) := by decide +kernel
theorem dX6_inked_90 : decode cX6_inked 90 = .ok (.getfield 225, 3) := by decide +kernel
theorem dX6_inked_93 : decode cX6_inked 93 = .ok (.isub, 1) := by decide +kernel
theorem dX6_inked_94 : decode cX6_inked 94 = .ok (.istore_n 3, 1) := by decide +kernel
theorem dX6_inked_95 : decode cX6_inked 95 = .ok (.iload 4, 2) := by decide +kernel
theorem dX6_inked_97 : decode cX6_inked 97 = .ok (.istore_n 2, 1) := by decide +kernel
theorem dX6_inked_98 : decode cX6_inked 98 = .ok (.iinc 4 1, 3) := by decide +kernel
theorem dX6_inked_101 : decode cX6_inked 101 = .ok (.goto (-77), 3) := by decide +kernel
theorem dX6_inked_104 : decode cX6_inked 104 = .ok (.iload_n 2, 1) := by decide +kernel
theorem dX6_inked_105 : decode cX6_inked 105 = .ok (.ireturn, 1) := by decide +kernel
theorem dX6_keepers_0 : decode cX6_keepers 0 = .ok (.iload_n 1, 1) := by decide +kernel
theorem dX6_keepers_1 : decode cX6_keepers 1 = .ok (.iconst 1, 1) := by decide +kernel
theorem dX6_keepers_2 : decode cX6_keepers 2 = .ok (.if_icmp .lt 30, 3) := by decide +kernel
theorem dX6_keepers_5 : decode cX6_keepers 5 = .ok (.iload_n 1, 1) := by decide +kernel
theorem dX6_keepers_6 : decode cX6_keepers 6 = .ok (.iconst 4, 1) := by decide +kernel
theorem dX6_keepers_7 : decode cX6_keepers 7 = .ok (.if_icmp .gt 25, 3) := by decide +kernel
theorem dX6_keepers_10 : decode cX6_keepers 10 = .ok (.iload_n 1, 1) := by decide +kernel
theorem dX6_keepers_11 : decode cX6_keepers 11 = .ok (.aload_n 0, 1) := by decide +kernel
theorem dX6_keepers_12 : decode cX6_keepers 12 = .ok (.getfield 22, 3) := by decide +kernel
theorem dX6_keepers_15 : decode cX6_keepers 15 = .ok (.getfield 116, 3) := by decide +kernel
theorem dX6_keepers_18 : decode cX6_keepers 18 = .ok (.if_icmp .gt 14, 3) := by decide +kernel
theorem dX6_keepers_21 : decode cX6_keepers 21 = .ok (.iload_n 1, 1) := by decide +kernel
theorem dX6_keepers_22 : decode cX6_keepers 22 = .ok (.aload_n 0, 1) := by decide +kernel
theorem dX6_keepers_23 : decode cX6_keepers 23 = .ok (.getfield 22, 3) := by decide +kernel
theorem dX6_keepers_26 : decode cX6_keepers 26 = .ok (.getfield 123, 3) := by decide +kernel
theorem dX6_keepers_29 : decode cX6_keepers 29 = .ok (.if_icmp .le 10, 3) := by decide +kernel
theorem dX6_keepers_32 : decode cX6_keepers 32 = .ok (.aload_n 0, 1) := by decide +kernel
theorem dX6_keepers_33 : decode cX6_keepers 33 = .ok (.bipush (-6), 2) := by decide +kernel
theorem dX6_keepers_35 : decode cX6_keepers 35 = .ok (.invokevirtual 51, 3) := by decide +kernel
theorem dX6_keepers_38 : decode cX6_keepers 38 = .ok (.ireturn, 1) := by decide +kernel
theorem dX6_keepers_39 : decode cX6_keepers 39 = .ok (.iload_n 2, 1) := by decide +kernel
theorem dX6_keepers_40 : decode cX6_keepers 40 = .ok (.iconst (-1), 1) := by decide +kernel
theorem dX6_keepers_41 : decode cX6_keepers 41 = .ok (.if_icmp .lt 8, 3) := by decide +kernel
theorem dX6_keepers_44 : decode cX6_keepers 44 = .ok (.iload_n 2, 1) := by decide +kernel
theorem dX6_keepers_45 : decode cX6_keepers 45 = .ok (.iload_n 1, 1) := by decide +kernel
theorem dX6_keepers_46 : decode cX6_keepers 46 = .ok (.if_icmp .lt 10, 3) := by decide +kernel
theorem dX6_keepers_49 : decode cX6_keepers 49 = .ok (.aload_n 0, 1) := by decide +kernel
theorem dX6_keepers_50 : decode cX6_keepers 50 = .ok (.bipush (-5), 2) := by decide +kernel
theorem dX6_keepers_52 : decode cX6_keepers 52 = .ok (.invokevirtual 51, 3) := by decide +kernel
theorem dX6_keepers_55 : decode cX6_keepers 55 = .ok (.ireturn, 1) := by decide +kernel
theorem dX6_keepers_56 : decode cX6_keepers 56 = .ok (.aload_n 0, 1) := by decide +kernel
theorem dX6_keepers_57 : decode cX6_keepers 57 = .ok (.iload_n 1, 1) := by decide +kernel
theorem dX6_keepers_58 : decode cX6_keepers 58 = .ok (.invokevirtual 228, 3) := by decide +kernel
theorem dX6_keepers_61 : decode cX6_keepers 61 = .ok (.istore_n 3, 1) := by decide +kernel
theorem dX6_keepers_62 : decode cX6_keepers 62 = .ok (.iload_n 2, 1) := by decide +kernel
theorem dX6_keepers_63 : decode cX6_keepers 63 = .ok (.iconst (-1), 1) := by decide +kernel
theorem dX6_keepers_64 : decode cX6_keepers 64 = .ok (.if_icmp .ne 12, 3) := by decide +kernel
theorem dX6_keepers_67 : decode cX6_keepers 67 = .ok (.aload_n 0, 1) := by decide +kernel
theorem dX6_keepers_68 : decode cX6_keepers 68 = .ok (.iload_n 3, 1) := by decide +kernel
theorem dX6_keepers_69 : decode cX6_keepers 69 = .ok (.iload_n 1, 1) := by decide +kernel
theorem dX6_keepers_70 : decode cX6_keepers 70 = .ok (.invokevirtual 231, 3) := by decide +kernel
theorem dX6_keepers_73 : decode cX6_keepers 73 = .ok (.goto 10, 3) := by decide +kernel
theorem dX6_keepers_76 : decode cX6_keepers 76 = .ok (.aload_n 0, 1) := by decide +kernel
theorem dX6_keepers_77 : decode cX6_keepers 77 = .ok (.iload_n 3, 1) := by decide +kernel
theorem dX6_keepers_78 : decode cX6_keepers 78 = .ok (.iload_n 1, 1) := by decide +kernel
theorem dX6_keepers_79 : decode cX6_keepers 79 = .ok (.iload_n 2, 1) := by decide +kernel
theorem dX6_keepers_80 : decode cX6_keepers 80 = .ok (.invokevirtual 234, 3) := by decide +kernel
theorem dX6_keepers_83 : decode cX6_keepers 83 = .ok (.ireturn, 1) := by decide +kernel
theorem dX6_bored_0 : decode cX6_bored 0 = .ok (.aload_n 0, 1) := by decide +kernel
theorem dX6_bored_1 : decode cX6_bored 1 = .ok (.getfield 22, 3) := by decide +kernel
theorem dX6_bored_4 : decode cX6_bored 4 = .ok (.getfield 123, 3) := by decide +kernel
theorem dX6_bored_7 : decode cX6_bored 7 = .ok (.ifCond .ne 10, 3) := by decide +kernel
theorem dX6_bored_10 : decode cX6_bored 10 = .ok (.aload_n 0, 1) := by decide +kernel
theorem dX6_bored_11 : decode cX6_bored 11 = .ok (.bipush (-5), 2) := by decide +kernel
theorem dX6_bored_13 : decode cX6_bored 13 = .ok (.invokevirtual 51, 3) := by decide +kernel
theorem dX6_bored_16 : decode cX6_bored 16 = .ok (.ireturn, 1) := by decide +kernel
theorem dX6_bored_17 : decode cX6_bored 17 = .ok (.iload_n 1, 1) := by decide +kernel
theorem dX6_bored_18 : decode cX6_bored 18 = .ok (.invokestatic 199, 3) := by decide +kernel
theorem dX6_bored_21 : decode cX6_bored 21 = .ok (.ifCond .eq 10, 3) := by decide +kernel
theorem dX6_bored_24 : decode cX6_bored 24 = .ok (.iload_n 2, 1) := by decide +kernel
theorem dX6_bored_25 : decode cX6_bored 25 = .ok (.invokestatic 202, 3) := by decide +kernel
theorem dX6_bored_28 : decode cX6_bored 28 = .ok (.ifCond .ne 10, 3) := by decide +kernel
theorem dX6_bored_31 : decode cX6_bored 31 = .ok (.aload_n 0, 1) := by decide +kernel
theorem dX6_bored_32 : decode cX6_bored 32 = .ok (.bipush (-6), 2) := by decide +kernel
theorem dX6_bored_34 : decode cX6_bored 34 = .ok (.invokevirtual 51, 3) := by decide +kernel
theorem dX6_bored_37 : decode cX6_bored 37 = .ok (.ireturn, 1) := by decide +kernel
theorem dX6_bored_38 : decode cX6_bored 38 = .ok (.aload_n 0, 1) := by decide +kernel
theorem dX6_bored_39 : decode cX6_bored 39 = .ok (.iload_n 1, 1) := by decide +kernel
theorem dX6_bored_40 : decode cX6_bored 40 = .ok (.iload_n 2, 1) := by decide +kernel
theorem dX6_bored_41 : decode cX6_bored 41 = .ok (.invokevirtual 205, 3) := by decide +kernel
theorem dX6_bored_44 : decode cX6_bored 44 = .ok (.pop, 1) := by decide +kernel
theorem dX6_bored_45 : decode cX6_bored 45 = .ok (.iconst 0, 1) := by decide +kernel
theorem dX6_bored_46 : decode cX6_bored 46 = .ok (.istore_n 3, 1) := by decide +kernel
theorem dX6_bored_47 : decode cX6_bored 47 = .ok (.iconst 1, 1) := by decide +kernel
theorem dX6_bored_48 : decode cX6_bored 48 = .ok (.istore 4, 2) := by decide +kernel
theorem dX6_bored_50 : decode cX6_bored 50 = .ok (.iload 4, 2) := by decide +kernel
theorem dX6_bored_52 : decode cX6_bored 52 = .ok (.aload_n 0, 1) := by decide +kernel
theorem dX6_bored_53 : decode cX6_bored 53 = .ok (.getfield 26, 3) := by decide +kernel
theorem dX6_bored_56 : decode cX6_bored 56 = .ok (.getfield 123, 3) := by decide +kernel
theorem dX6_bored_59 : decode cX6_bored 59 = .ok (.if_icmp .ge 40, 3) := by decide +kernel
theorem dX6_bored_62 : decode cX6_bored 62 = .ok (.aload_n 0, 1) := by decide +kernel
theorem dX6_bored_63 : decode cX6_bored 63 = .ok (.getfield 26, 3) := by decide +kernel
theorem dX6_bored_66 : decode cX6_bored 66 = .ok (.getfield 152, 3) := by decide +kernel
theorem dX6_bored_69 : decode cX6_bored 69 = .ok (.iload 4, 2) := by decide +kernel
theorem dX6_bored_71 : decode cX6_bored 71 = .ok (.aaload, 1) := by decide +kernel
theorem dX6_bored_72 : decode cX6_bored 72 = .ok (.getfield 170, 3) := by decide +kernel
theorem dX6_bored_75 : decode cX6_bored 75 = .ok (.aload_n 0, 1) := by decide +kernel
theorem dX6_bored_76 : decode cX6_bored 76 = .ok (.getfield 26, 3) := by decide +kernel
theorem dX6_bored_79 : decode cX6_bored 79 = .ok (.getfield 152, 3) := by decide +kernel
theorem dX6_bored_82 : decode cX6_bored 82 = .ok (.iload_n 3, 1) := by decide +kernel
theorem dX6_bored_83 : decode cX6_bored 83 = .ok (.aaload, 1) := by decide +kernel
theorem dX6_bored_84 : decode cX6_bored 84 = .ok (.getfield 170, 3) := by decide +kernel
theorem dX6_bored_87 : decode cX6_bored 87 = .ok (.if_icmp .ge 6, 3) := by decide +kernel
theorem dX6_bored_90 : decode cX6_bored 90 = .ok (.iload 4, 2) := by decide +kernel
theorem dX6_bored_92 : decode cX6_bored 92 = .ok (.istore_n 3, 1) := by decide +kernel
theorem dX6_bored_93 : decode cX6_bored 93 = .ok (.iinc 4 1, 3) := by decide +kernel
theorem dX6_bored_96 : decode cX6_bored 96 = .ok (.goto (-46), 3) := by decide +kernel
theorem dX6_bored_99 : decode cX6_bored 99 = .ok (.iload_n 3, 1) := by decide +kernel
theorem dX6_bored_100 : decode cX6_bored 100 = .ok (.ireturn, 1) := by decide +kernel
theorem dX6_bank_0 : decode cX6_bank 0 = .ok (.iload_n 1, 1) := by decide +kernel
theorem dX6_bank_1 : decode cX6_bank 1 = .ok (.invokestatic 202, 3) := by decide +kernel
theorem dX6_bank_4 : decode cX6_bank 4 = .ok (.ifCond .ne 10, 3) := by decide +kernel
theorem dX6_bank_7 : decode cX6_bank 7 = .ok (.aload_n 0, 1) := by decide +kernel
theorem dX6_bank_8 : decode cX6_bank 8 = .ok (.bipush (-6), 2) := by decide +kernel
theorem dX6_bank_10 : decode cX6_bank 10 = .ok (.invokevirtual 51, 3) := by decide +kernel
theorem dX6_bank_13 : decode cX6_bank 13 = .ok (.ireturn, 1) := by decide +kernel
theorem dX6_bank_14 : decode cX6_bank 14 = .ok (.aload_n 0, 1) := by decide +kernel
theorem dX6_bank_15 : decode cX6_bank 15 = .ok (.iconst 0, 1) := by decide +kernel
theorem dX6_bank_16 : decode cX6_bank 16 = .ok (.iload_n 1, 1) := by decide +kernel
theorem dX6_bank_17 : decode cX6_bank 17 = .ok (.invokevirtual 205, 3) := by decide +kernel
theorem dX6_bank_20 : decode cX6_bank 20 = .ok (.pop, 1) := by decide +kernel
theorem dX6_bank_21 : decode cX6_bank 21 = .ok (.iconst 0, 1) := by decide +kernel
theorem dX6_bank_22 : decode cX6_bank 22 = .ok (.istore_n 2, 1) := by decide +kernel
theorem dX6_bank_23 : decode cX6_bank 23 = .ok (.iconst 0, 1) := by decide +kernel
theorem dX6_bank_24 : decode cX6_bank 24 = .ok (.istore_n 3, 1) := by decide +kernel
theorem dX6_bank_25 : decode cX6_bank 25 = .ok (.iload_n 3, 1) := by decide +kernel
theorem dX6_bank_26 : decode cX6_bank 26 = .ok (.aload_n 0, 1) := by decide +kernel
theorem dX6_bank_27 : decode cX6_bank 27 = .ok (.getfield 26, 3) := by decide +kernel
theorem dX6_bank_30 : decode cX6_bank 30 = .ok (.getfield 123, 3) := by decide +kernel
theorem dX6_bank_33 : decode cX6_bank 33 = .ok (.if_icmp .ge 26, 3) := by decide +kernel
theorem dX6_bank_36 : decode cX6_bank 36 = .ok (.iload_n 2, 1) := by decide +kernel
theorem dX6_bank_37 : decode cX6_bank 37 = .ok (.aload_n 0, 1) := by decide +kernel
theorem dX6_bank_38 : decode cX6_bank 38 = .ok (.getfield 26, 3) := by decide +kernel
theorem dX6_bank_41 : decode cX6_bank 41 = .ok (.getfield 152, 3) := by decide +kernel
theorem dX6_bank_44 : decode cX6_bank 44 = .ok (.iload_n 3, 1) := by decide +kernel
theorem dX6_bank_45 : decode cX6_bank 45 = .ok (.aaload, 1) := by decide +kernel
theorem dX6_bank_46 : decode cX6_bank 46 = .ok (.getfield 161, 3) := by decide +kernel
theorem dX6_bank_49 : decode cX6_bank 49 = .ok (.invokestatic 237, 3) := by decide +kernel
theorem dX6_bank_52 : decode cX6_bank 52 = .ok (.istore_n 2, 1) := by decide +kernel
theorem dX6_bank_53 : decode cX6_bank 53 = .ok (.iinc 3 1, 3) := by decide +kernel
theorem dX6_bank_56 : decode cX6_bank 56 = .ok (.goto (-31), 3) := by decide +kernel
theorem dX6_bank_59 : decode cX6_bank 59 = .ok (.iload_n 2, 1) := by decide +kernel
theorem dX6_bank_60 : decode cX6_bank 60 = .ok (.ireturn, 1) := by decide +kernel
theorem dX6_rot_0 : decode cX6_rot 0 = .ok (.iload_n 1, 1) := by decide +kernel
theorem dX6_rot_1 : decode cX6_rot 1 = .ok (.invokestatic 199, 3) := by decide +kernel
theorem dX6_rot_4 : decode cX6_rot 4 = .ok (.ifCond .eq 10, 3) := by decide +kernel
theorem dX6_rot_7 : decode cX6_rot 7 = .ok (.iload_n 2, 1) := by decide +kernel
theorem dX6_rot_8 : decode cX6_rot 8 = .ok (.invokestatic 202, 3) := by decide +kernel
theorem dX6_rot_11 : decode cX6_rot 11 = .ok (.ifCond .ne 10, 3) := by decide +kernel
theorem dX6_rot_14 : decode cX6_rot 14 = .ok (.aload_n 0, 1) := by decide +kernel
theorem dX6_rot_15 : decode cX6_rot 15 = .ok (.bipush (-6), 2) := by decide +kernel
theorem dX6_rot_17 : decode cX6_rot 17 = .ok (.invokevirtual 51, 3) := by decide +kernel
theorem dX6_rot_20 : decode cX6_rot 20 = .ok (.ireturn, 1) := by decide +kernel
theorem dX6_rot_21 : decode cX6_rot 21 = .ok (.aload_n 0, 1) := by decide +kernel
theorem dX6_rot_22 : decode cX6_rot 22 = .ok (.iload_n 1, 1) := by decide +kernel
theorem dX6_rot_23 : decode cX6_rot 23 = .ok (.iload_n 2, 1) := by decide +kernel
theorem dX6_rot_24 : decode cX6_rot 24 = .ok (.invokevirtual 205, 3) := by decide +kernel
theorem dX6_rot_27 : decode cX6_rot 27 = .ok (.pop, 1) := by decide +kernel
theorem dX6_rot_28 : decode cX6_rot 28 = .ok (.aload_n 0, 1) := by decide +kernel
theorem dX6_rot_29 : decode cX6_rot 29 = .ok (.getfield 26, 3) := by decide +kernel
theorem dX6_rot_32 : decode cX6_rot 32 = .ok (.invokevirtual 242, 3) := by decide +kernel
theorem dX6_rot_35 : decode cX6_rot 35 = .ok (.ireturn, 1) := by decide +kernel
theorem dX6_trust_0 : decode cX6_trust 0 = .ok (.aload_n 0, 1) := by decide +kernel
theorem dX6_trust_1 : decode cX6_trust 1 = .ok (.iload_n 1, 1) := by decide +kernel
theorem dX6_trust_2 : decode cX6_trust 2 = .ok (.invokevirtual 149, 3) := by decide +kernel
theorem dX6_trust_5 : decode cX6_trust 5 = .ok (.ifCond .eq 11, 3) := by decide +kernel
theorem dX6_trust_8 : decode cX6_trust 8 = .ok (.aload_n 0, 1) := by decide +kernel
theorem dX6_trust_9 : decode cX6_trust 9 = .ok (.iload_n 2, 1) := by decide +kernel
theorem dX6_trust_10 : decode cX6_trust 10 = .ok (.invokevirtual 94, 3) := by decide +kernel
theorem dX6_trust_13 : decode cX6_trust 13 = .ok (.ifCond .ne 10, 3) := by decide +kernel
theorem dX6_trust_16 : decode cX6_trust 16 = .ok (.aload_n 0, 1) := by decide +kernel
theorem dX6_trust_17 : decode cX6_trust 17 = .ok (.bipush (-11), 2) := by decide +kernel
theorem dX6_trust_19 : decode cX6_trust 19 = .ok (.invokevirtual 51, 3) := by decide +kernel
theorem dX6_trust_22 : decode cX6_trust 22 = .ok (.ireturn, 1) := by decide +kernel
theorem dX6_trust_23 : decode cX6_trust 23 = .ok (.aload_n 0, 1) := by decide +kernel
theorem dX6_trust_24 : decode cX6_trust 24 = .ok (.getfield 26, 3) := by decide +kernel
theorem dX6_trust_27 : decode cX6_trust 27 = .ok (.aload_n 0, 1) := by decide +kernel
theorem dX6_trust_28 : decode cX6_trust 28 = .ok (.getfield 22, 3) := by decide +kernel
theorem dX6_trust_31 : decode cX6_trust 31 = .ok (.invokevirtual 192, 3) := by decide +kernel
theorem dX6_trust_34 : decode cX6_trust 34 = .ok (.aload_n 0, 1) := by decide +kernel
theorem dX6_trust_35 : decode cX6_trust 35 = .ok (.getfield 22, 3) := by decide +kernel
theorem dX6_trust_38 : decode cX6_trust 38 = .ok (.getfield 104, 3) := by decide +kernel
theorem dX6_trust_41 : decode cX6_trust 41 = .ok (.iload_n 2, 1) := by decide +kernel
theorem dX6_trust_42 : decode cX6_trust 42 = .ok (.aaload, 1) := by decide +kernel
theorem dX6_trust_43 : decode cX6_trust 43 = .ok (.invokevirtual 145, 3) := by decide +kernel
theorem dX6_trust_46 : decode cX6_trust 46 = .ok (.istore_n 3, 1) := by decide +kernel
theorem dX6_trust_47 : decode cX6_trust 47 = .ok (.iconst 0, 1) := by decide +kernel
theorem dX6_trust_48 : decode cX6_trust 48 = .ok (.istore 4, 2) := by decide +kernel
theorem dX6_trust_50 : decode cX6_trust 50 = .ok (.iload 4, 2) := by decide +kernel
theorem dX6_trust_52 : decode cX6_trust 52 = .ok (.sipush 240, 3) := by decide +kernel
theorem dX6_trust_55 : decode cX6_trust 55 = .ok (.if_icmp .gt 37, 3) := by decide +kernel
theorem dX6_trust_58 : decode cX6_trust 58 = .ok (.aload_n 0, 1) := by decide +kernel
theorem dX6_trust_59 : decode cX6_trust 59 = .ok (.getfield 26, 3) := by decide +kernel
theorem dX6_trust_62 : decode cX6_trust 62 = .ok (.getfield 152, 3) := by decide +kernel
theorem dX6_trust_65 : decode cX6_trust 65 = .ok (.iload_n 1, 1) := by decide +kernel
theorem dX6_trust_66 : decode cX6_trust 66 = .ok (.aaload, 1) := by decide +kernel
theorem dX6_trust_67 : decode cX6_trust 67 = .ok (.getfield 161, 3) := by decide +kernel
theorem dX6_trust_70 : decode cX6_trust 70 = .ok (.iload_n 3, 1) := by decide +kernel
theorem dX6_trust_71 : decode cX6_trust 71 = .ok (.if_icmp .lt 6, 3) := by decide +kernel
theorem dX6_trust_74 : decode cX6_trust 74 = .ok (.iload 4, 2) := by decide +kernel
theorem dX6_trust_76 : decode cX6_trust 76 = .ok (.ireturn, 1) := by decide +kernel
theorem dX6_trust_77 : decode cX6_trust 77 = .ok (.aload_n 0, 1) := by decide +kernel
theorem dX6_trust_78 : decode cX6_trust 78 = .ok (.getfield 26, 3) := by decide +kernel
theorem dX6_trust_81 : decode cX6_trust 81 = .ok (.iload_n 1, 1) := by decide +kernel
theorem dX6_trust_82 : decode cX6_trust 82 = .ok (.iconst 1, 1) := by decide +kernel
theorem dX6_trust_83 : decode cX6_trust 83 = .ok (.invokevirtual 245, 3) := by decide +kernel
theorem dX6_trust_86 : decode cX6_trust 86 = .ok (.iinc 4 1, 3) := by decide +kernel
theorem dX6_trust_89 : decode cX6_trust 89 = .ok (.goto (-39), 3) := by decide +kernel
theorem dX6_trust_92 : decode cX6_trust 92 = .ok (.iconst (-1), 1) := by decide +kernel
theorem dX6_trust_93 : decode cX6_trust 93 = .ok (.ireturn, 1) := by decide +kernel
theorem dX6_heap_0 : decode cX6_heap 0 = .ok (.iload_n 1, 1) := by decide +kernel
theorem dX6_heap_1 : decode cX6_heap 1 = .ok (.invokestatic 199, 3) := by decide +kernel
theorem dX6_heap_4 : decode cX6_heap 4 = .ok (.ifCond .eq 7, 3) := by decide +kernel
theorem dX6_heap_7 : decode cX6_heap 7 = .ok (.iload_n 2, 1) := by decide +kernel
theorem dX6_heap_8 : decode cX6_heap 8 = .ok (.ifCond .ge 10, 3) := by decide +kernel
theorem dX6_heap_11 : decode cX6_heap 11 = .ok (.aload_n 0, 1) := by decide +kernel
theorem dX6_heap_12 : decode cX6_heap 12 = .ok (.bipush (-16), 2) := by decide +kernel
theorem dX6_heap_14 : decode cX6_heap 14 = .ok (.invokevirtual 51, 3) := by decide +kernel
theorem dX6_heap_17 : decode cX6_heap 17 = .ok (.ireturn, 1) := by decide +kernel
theorem dX6_heap_18 : decode cX6_heap 18 = .ok (.aload_n 0, 1) := by decide +kernel
theorem dX6_heap_19 : decode cX6_heap 19 = .ok (.getfield 26, 3) := by decide +kernel
theorem dX6_heap_22 : decode cX6_heap 22 = .ok (.aload_n 0, 1) := by decide +kernel
theorem dX6_heap_23 : decode cX6_heap 23 = .ok (.getfield 22, 3) := by decide +kernel
theorem dX6_heap_26 : decode cX6_heap 26 = .ok (.invokevirtual 192, 3) := by decide +kernel
theorem dX6_heap_29 : decode cX6_heap 29 = .ok (.iconst 0, 1) := by decide +kernel
theorem dX6_heap_30 : decode cX6_heap 30 = .ok (.istore_n 3, 1) := by decide +kernel
theorem dX6_heap_31 : decode cX6_heap 31 = .ok (.iload_n 3, 1) := by decide +kernel
theorem dX6_heap_32 : decode cX6_heap 32 = .ok (.sipush 240, 3) := by decide +kernel
theorem dX6_heap_35 : decode cX6_heap 35 = .ok (.if_icmp .ge 31, 3) := by decide +kernel
theorem dX6_heap_38 : decode cX6_heap 38 = .ok (.aload_n 0, 1) := by decide +kernel
theorem dX6_heap_39 : decode cX6_heap 39 = .ok (.getfield 26, 3) := by decide +kernel
theorem dX6_heap_42 : decode cX6_heap 42 = .ok (.getfield 208, 3) := by decide +kernel
theorem dX6_heap_45 : decode cX6_heap 45 = .ok (.iload_n 2, 1) := by decide +kernel
theorem dX6_heap_46 : decode cX6_heap 46 = .ok (.if_icmp .lt 5, 3) := by decide +kernel
theorem dX6_heap_49 : decode cX6_heap 49 = .ok (.iload_n 3, 1) := by decide +kernel
theorem dX6_heap_50 : decode cX6_heap 50 = .ok (.ireturn, 1) := by decide +kernel
theorem dX6_heap_51 : decode cX6_heap 51 = .ok (.aload_n 0, 1) := by decide +kernel
theorem dX6_heap_52 : decode cX6_heap 52 = .ok (.getfield 26, 3) := by decide +kernel
theorem dX6_heap_55 : decode cX6_heap 55 = .ok (.iload_n 1, 1) := by decide +kernel
theorem dX6_heap_56 : decode cX6_heap 56 = .ok (.iconst 1, 1) := by decide +kernel
theorem dX6_heap_57 : decode cX6_heap 57 = .ok (.invokevirtual 222, 3) := by decide +kernel
theorem dX6_heap_60 : decode cX6_heap 60 = .ok (.iinc 3 1, 3) := by decide +kernel
theorem dX6_heap_63 : decode cX6_heap 63 = .ok (.goto (-32), 3) := by decide +kernel
theorem dX6_heap_66 : decode cX6_heap 66 = .ok (.aload_n 0, 1) := by decide +kernel
theorem dX6_heap_67 : decode cX6_heap 67 = .ok (.getfield 26, 3) := by decide +kernel
theorem dX6_heap_70 : decode cX6_heap 70 = .ok (.getfield 208, 3) := by decide +kernel
theorem dX6_heap_73 : decode cX6_heap 73 = .ok (.iload_n 2, 1) := by decide +kernel
theorem dX6_heap_74 : decode cX6_heap 74 = .ok (.if_icmp .lt 9, 3) := by decide +kernel
theorem dX6_heap_77 : decode cX6_heap 77 = .ok (.sipush 240, 3) := by decide +kernel
theorem dX6_heap_80 : decode cX6_heap 80 = .ok (.goto 4, 3) := by decide +kernel
theorem dX6_heap_83 : decode cX6_heap 83 = .ok (.iconst (-1), 1) := by decide +kernel
theorem dX6_heap_84 : decode cX6_heap 84 = .ok (.ireturn, 1) := by decide +kernel
theorem dX6_judge_0 : decode cX6_judge 0 = .ok (.aload_n 0, 1) := by decide +kernel
theorem dX6_judge_1 : decode cX6_judge 1 = .ok (.iload_n 1, 1) := by decide +kernel
theorem dX6_judge_2 : decode cX6_judge 2 = .ok (.iload_n 2, 1) := by decide +kernel
theorem dX6_judge_3 : decode cX6_judge 3 = .ok (.invokevirtual 248, 3) := by decide +kernel
theorem dX6_judge_6 : decode cX6_judge 6 = .ok (.istore_n 3, 1) := by decide +kernel
theorem dX6_judge_7 : decode cX6_judge 7 = .ok (.iload_n 3, 1) := by decide +kernel
theorem dX6_judge_8 : decode cX6_judge 8 = .ok (.ifCond .eq 12, 3) := by decide +kernel
theorem dX6_judge_11 : decode cX6_judge 11 = .ok (.aload_n 0, 1) := by decide +kernel
theorem dX6_judge_12 : decode cX6_judge 12 = .ok (.bipush (-10), 2) := by decide +kernel
theorem dX6_judge_14 : decode cX6_judge 14 = .ok (.iload_n 3, 1) := by decide +kernel
theorem dX6_judge_15 : decode cX6_judge 15 = .ok (.iadd, 1) := by decide +kernel
theorem dX6_judge_16 : decode cX6_judge 16 = .ok (.invokevirtual 51, 3) := by decide +kernel
theorem dX6_judge_19 : decode cX6_judge 19 = .ok (.ireturn, 1) := by decide +kernel
theorem dX6_judge_20 : decode cX6_judge 20 = .ok (.aload_n 0, 1) := by decide +kernel
theorem dX6_judge_21 : decode cX6_judge 21 = .ok (.iload_n 1, 1) := by decide +kernel
theorem dX6_judge_22 : decode cX6_judge 22 = .ok (.iload_n 2, 1) := by decide +kernel
theorem dX6_judge_23 : decode cX6_judge 23 = .ok (.invokevirtual 251, 3) := by decide +kernel
theorem dX6_judge_26 : decode cX6_judge 26 = .ok (.ireturn, 1) := by decide +kernel
theorem dX6_told_0 : decode cX6_told 0 = .ok (.aload_n 0, 1) := by decide +kernel
theorem dX6_told_1 : decode cX6_told 1 = .ok (.iload_n 1, 1) := by decide +kernel
theorem dX6_told_2 : decode cX6_told 2 = .ok (.iload_n 2, 1) := by decide +kernel
theorem dX6_told_3 : decode cX6_told 3 = .ok (.invokevirtual 248, 3) := by decide +kernel
theorem dX6_told_6 : decode cX6_told 6 = .ok (.istore 4, 2) := by decide +kernel
theorem dX6_told_8 : decode cX6_told 8 = .ok (.iload 4, 2) := by decide +kernel
theorem dX6_told_10 : decode cX6_told 10 = .ok (.ifCond .eq 10, 3) := by decide +kernel
theorem dX6_told_13 : decode cX6_told 13 = .ok (.aload_n 0, 1) := by decide +kernel
theorem dX6_told_14 : decode cX6_told 14 = .ok (.iload 4, 2) := by decide +kernel
theorem dX6_told_16 : decode cX6_told 16 = .ok (.invokevirtual 51, 3) := by decide +kernel
theorem dX6_told_19 : decode cX6_told 19 = .ok (.ireturn, 1) := by decide +kernel
theorem dX6_told_20 : decode cX6_told 20 = .ok (.iload_n 3, 1) := by decide +kernel
theorem dX6_told_21 : decode cX6_told 21 = .ok (.bipush 10, 2) := by decide +kernel
theorem dX6_told_23 : decode cX6_told 23 = .ok (.if_icmp .lt 21, 3) := by decide +kernel
theorem dX6_told_26 : decode cX6_told 26 = .ok (.iload_n 3, 1) := by decide +kernel
theorem dX6_told_27 : decode cX6_told 27 = .ok (.bipush 10, 2) := by decide +kernel
theorem dX6_told_29 : decode cX6_told 29 = .ok (.isub, 1) := by decide +kernel
theorem dX6_told_30 : decode cX6_told 30 = .ok (.aload_n 0, 1) := by decide +kernel
theorem dX6_told_31 : decode cX6_told 31 = .ok (.getfield 22, 3) := by decide +kernel
theorem dX6_told_34 : decode cX6_told 34 = .ok (.getfield 123, 3) := by decide +kernel
theorem dX6_told_37 : decode cX6_told 37 = .ok (.if_icmp .ge 7, 3) := by decide +kernel
theorem dX6_told_40 : decode cX6_told 40 = .ok (.iconst 1, 1) := by decide +kernel
theorem dX6_told_41 : decode cX6_told 41 = .ok (.goto 4, 3) := by decide +kernel
theorem dX6_told_44 : decode cX6_told 44 = .ok (.iconst 0, 1) := by decide +kernel
theorem dX6_told_45 : decode cX6_told 45 = .ok (.istore 5, 2) := by decide +kernel
theorem dX6_told_47 : decode cX6_told 47 = .ok (.iload_n 3, 1) := by decide +kernel
theorem dX6_told_48 : decode cX6_told 48 = .ok (.ifCond .eq 20, 3) := by decide +kernel
theorem dX6_told_51 : decode cX6_told 51 = .ok (.iload_n 3, 1) := by decide +kernel
theorem dX6_told_52 : decode cX6_told 52 = .ok (.iconst 1, 1) := by decide +kernel
theorem dX6_told_53 : decode cX6_told 53 = .ok (.if_icmp .eq 15, 3) := by decide +kernel
theorem dX6_told_56 : decode cX6_told 56 = .ok (.iload 5, 2) := by decide +kernel
theorem dX6_told_58 : decode cX6_told 58 = .ok (.ifCond .ne 10, 3) := by decide +kernel
theorem dX6_told_61 : decode cX6_told 61 = .ok (.aload_n 0, 1) := by decide +kernel
theorem dX6_told_62 : decode cX6_told 62 = .ok (.bipush (-5), 2) := by decide +kernel
theorem dX6_told_64 : decode cX6_told 64 = .ok (.invokevirtual 51, 3) := by decide +kernel
theorem dX6_told_67 : decode cX6_told 67 = .ok (.ireturn, 1) := by decide +kernel
theorem dX6_told_68 : decode cX6_told 68 = .ok (.aload_n 0, 1) := by decide +kernel
theorem dX6_told_69 : decode cX6_told 69 = .ok (.iload_n 1, 1) := by decide +kernel
theorem dX6_told_70 : decode cX6_told 70 = .ok (.iload_n 2, 1) := by decide +kernel
theorem dX6_told_71 : decode cX6_told 71 = .ok (.invokevirtual 251, 3) := by decide +kernel
theorem dX6_told_74 : decode cX6_told 74 = .ok (.iconst (-1), 1) := by decide +kernel
theorem dX6_told_75 : decode cX6_told 75 = .ok (.if_icmp .eq 10, 3) := by decide +kernel
theorem dX6_told_78 : decode cX6_told 78 = .ok (.aload_n 0, 1) := by decide +kernel
theorem dX6_told_79 : decode cX6_told 79 = .ok (.bipush (-6), 2) := by decide +kernel
theorem dX6_told_81 : decode cX6_told 81 = .ok (.invokevirtual 51, 3) := by decide +kernel
theorem dX6_told_84 : decode cX6_told 84 = .ok (.ireturn, 1) := by decide +kernel
theorem dX6_told_85 : decode cX6_told 85 = .ok (.iload 5, 2) := by decide +kernel
theorem dX6_told_87 : decode cX6_told 87 = .ok (.ifCond .eq 19, 3) := by decide +kernel
theorem dX6_told_90 : decode cX6_told 90 = .ok (.aload_n 0, 1) := by decide +kernel
theorem dX6_told_91 : decode cX6_told 91 = .ok (.getfield 26, 3) := by decide +kernel
theorem dX6_told_94 : decode cX6_told 94 = .ok (.getfield 152, 3) := by decide +kernel
theorem dX6_told_97 : decode cX6_told 97 = .ok (.iload_n 3, 1) := by decide +kernel
theorem dX6_told_98 : decode cX6_told 98 = .ok (.bipush 10, 2) := by decide +kernel
theorem dX6_told_100 : decode cX6_told 100 = .ok (.isub, 1) := by decide +kernel
theorem dX6_told_101 : decode cX6_told 101 = .ok (.aaload, 1) := by decide +kernel
theorem dX6_told_102 : decode cX6_told 102 = .ok (.getfield 170, 3) := by decide +kernel
theorem dX6_told_105 : decode cX6_told 105 = .ok (.ireturn, 1) := by decide +kernel
theorem dX6_told_106 : decode cX6_told 106 = .ok (.iload_n 3, 1) := by decide +kernel
theorem dX6_told_107 : decode cX6_told 107 = .ok (.ifCond .ne 21, 3) := by decide +kernel
theorem dX6_told_110 : decode cX6_told 110 = .ok (.aload_n 0, 1) := by decide +kernel
theorem dX6_told_111 : decode cX6_told 111 = .ok (.getfield 26, 3) := by decide +kernel
theorem dX6_told_114 : decode cX6_told 114 = .ok (.getfield 225, 3) := by decide +kernel
theorem dX6_told_117 : decode cX6_told 117 = .ok (.aload_n 0, 1) := by decide +kernel
theorem dX6_told_118 : decode cX6_told 118 = .ok (.getfield 22, 3) := by decide +kernel
theorem dX6_told_121 : decode cX6_told 121 = .ok (.getfield 225, 3) := by decide +kernel
theorem dX6_told_124 : decode cX6_told 124 = .ok (.isub, 1) := by decide +kernel
theorem dX6_told_125 : decode cX6_told 125 = .ok (.goto 10, 3) := by decide +kernel
theorem dX6_told_128 : decode cX6_told 128 = .ok (.aload_n 0, 1) := by decide +kernel
theorem dX6_told_129 : decode cX6_told 129 = .ok (.getfield 26, 3) := by decide +kernel
theorem dX6_told_132 : decode cX6_told 132 = .ok (.getfield 208, 3) := by decide +kernel
theorem dX6_told_135 : decode cX6_told 135 = .ok (.ireturn, 1) := by decide +kernel
theorem dX6_done_0 : decode cX6_done 0 = .ok (.aload_n 0, 1) := by decide +kernel
theorem dX6_done_1 : decode cX6_done 1 = .ok (.iload_n 1, 1) := by decide +kernel
theorem dX6_done_2 : decode cX6_done 2 = .ok (.iload_n 2, 1) := by decide +kernel
theorem dX6_done_3 : decode cX6_done 3 = .ok (.invokevirtual 248, 3) := by decide +kernel
theorem dX6_done_6 : decode cX6_done 6 = .ok (.istore_n 3, 1) := by decide +kernel
theorem dX6_done_7 : decode cX6_done 7 = .ok (.iload_n 3, 1) := by decide +kernel
theorem dX6_done_8 : decode cX6_done 8 = .ok (.ifCond .eq 9, 3) := by decide +kernel
theorem dX6_done_11 : decode cX6_done 11 = .ok (.aload_n 0, 1) := by decide +kernel
theorem dX6_done_12 : decode cX6_done 12 = .ok (.iload_n 3, 1) := by decide +kernel
theorem dX6_done_13 : decode cX6_done 13 = .ok (.invokevirtual 51, 3) := by decide +kernel
theorem dX6_done_16 : decode cX6_done 16 = .ok (.ireturn, 1) := by decide +kernel
theorem dX6_done_17 : decode cX6_done 17 = .ok (.aload_n 0, 1) := by decide +kernel
theorem dX6_done_18 : decode cX6_done 18 = .ok (.iload_n 1, 1) := by decide +kernel
theorem dX6_done_19 : decode cX6_done 19 = .ok (.iload_n 2, 1) := by decide +kernel
theorem dX6_done_20 : decode cX6_done 20 = .ok (.invokevirtual 251, 3) := by decide +kernel
theorem dX6_done_23 : decode cX6_done 23 = .ok (.iconst (-1), 1) := by decide +kernel
theorem dX6_done_24 : decode cX6_done 24 = .ok (.if_icmp .eq 10, 3) := by decide +kernel
theorem dX6_done_27 : decode cX6_done 27 = .ok (.aload_n 0, 1) := by decide +kernel
theorem dX6_done_28 : decode cX6_done 28 = .ok (.bipush (-6), 2) := by decide +kernel
theorem dX6_done_30 : decode cX6_done 30 = .ok (.invokevirtual 51, 3) := by decide +kernel
theorem dX6_done_33 : decode cX6_done 33 = .ok (.ireturn, 1) := by decide +kernel
theorem dX6_done_34 : decode cX6_done 34 = .ok (.aload_n 0, 1) := by decide +kernel
theorem dX6_done_35 : decode cX6_done 35 = .ok (.getfield 22, 3) := by decide +kernel
theorem dX6_done_38 : decode cX6_done 38 = .ok (.aload_n 0, 1) := by decide +kernel
theorem dX6_done_39 : decode cX6_done 39 = .ok (.getfield 26, 3) := by decide +kernel
theorem dX6_done_42 : decode cX6_done 42 = .ok (.invokevirtual 192, 3) := by decide +kernel
theorem dX6_done_45 : decode cX6_done 45 = .ok (.aload_n 0, 1) := by decide +kernel
theorem dX6_done_46 : decode cX6_done 46 = .ok (.getfield 22, 3) := by decide +kernel
theorem dX6_done_49 : decode cX6_done 49 = .ok (.getfield 254, 3) := by decide +kernel
theorem dX6_done_52 : decode cX6_done 52 = .ok (.ireturn, 1) := by decide +kernel
theorem dX6_does_0 : decode cX6_does 0 = .ok (.aload_n 0, 1) := by decide +kernel
theorem dX6_does_1 : decode cX6_does 1 = .ok (.iload_n 1, 1) := by decide +kernel
theorem dX6_does_2 : decode cX6_does 2 = .ok (.invokevirtual 149, 3) := by decide +kernel
theorem dX6_does_5 : decode cX6_does 5 = .ok (.ifCond .ne 9, 3) := by decide +kernel
theorem dX6_does_8 : decode cX6_does 8 = .ok (.aload_n 0, 1) := by decide +kernel
theorem dX6_does_9 : decode cX6_does 9 = .ok (.iconst (-1), 1) := by decide +kernel
theorem dX6_does_10 : decode cX6_does 10 = .ok (.invokevirtual 51, 3) := by decide +kernel
theorem dX6_does_13 : decode cX6_does 13 = .ok (.ireturn, 1) := by decide +kernel
theorem dX6_does_14 : decode cX6_does 14 = .ok (.aload_n 0, 1) := by decide +kernel
theorem dX6_does_15 : decode cX6_does 15 = .ok (.getfield 22, 3) := by decide +kernel
theorem dX6_does_18 : decode cX6_does 18 = .ok (.iload_n 1, 1) := by decide +kernel
theorem dX6_does_19 : decode cX6_does 19 = .ok (.iload_n 2, 1) := by decide +kernel
theorem dX6_does_20 : decode cX6_does 20 = .ok (.invokevirtual 196, 3) := by decide +kernel
theorem dX6_does_23 : decode cX6_does 23 = .ok (.ifCond .ne 10, 3) := by decide +kernel
theorem dX6_does_26 : decode cX6_does 26 = .ok (.aload_n 0, 1) := by decide +kernel
theorem dX6_does_27 : decode cX6_does 27 = .ok (.bipush (-6), 2) := by decide +kernel
theorem dX6_does_29 : decode cX6_does 29 = .ok (.invokevirtual 51, 3) := by decide +kernel
theorem dX6_does_32 : decode cX6_does 32 = .ok (.ireturn, 1) := by decide +kernel
theorem dX6_does_33 : decode cX6_does 33 = .ok (.aload_n 0, 1) := by decide +kernel
theorem dX6_does_34 : decode cX6_does 34 = .ok (.getfield 22, 3) := by decide +kernel
theorem dX6_does_37 : decode cX6_does 37 = .ok (.iload_n 1, 1) := by decide +kernel
theorem dX6_does_38 : decode cX6_does 38 = .ok (.iload_n 2, 1) := by decide +kernel
theorem dX6_does_39 : decode cX6_does 39 = .ok (.invokevirtual 245, 3) := by decide +kernel
theorem dX6_does_42 : decode cX6_does 42 = .ok (.iconst 1, 1) := by decide +kernel
theorem dX6_does_43 : decode cX6_does 43 = .ok (.ireturn, 1) := by decide +kernel
theorem dX6_minute_0 : decode cX6_minute 0 = .ok (.iload_n 1, 1) := by decide +kernel
theorem dX6_minute_1 : decode cX6_minute 1 = .ok (.invokestatic 199, 3) := by decide +kernel
theorem dX6_minute_4 : decode cX6_minute 4 = .ok (.ifCond .ne 10, 3) := by decide +kernel
theorem dX6_minute_7 : decode cX6_minute 7 = .ok (.aload_n 0, 1) := by decide +kernel
theorem dX6_minute_8 : decode cX6_minute 8 = .ok (.bipush (-6), 2) := by decide +kernel
theorem dX6_minute_10 : decode cX6_minute 10 = .ok (.invokevirtual 51, 3) := by decide +kernel
theorem dX6_minute_13 : decode cX6_minute 13 = .ok (.ireturn, 1) := by decide +kernel
theorem dX6_minute_14 : decode cX6_minute 14 = .ok (.aload_n 0, 1) := by decide +kernel
theorem dX6_minute_15 : decode cX6_minute 15 = .ok (.getfield 22, 3) := by decide +kernel
theorem dX6_minute_18 : decode cX6_minute 18 = .ok (.iload_n 1, 1) := by decide +kernel
theorem dX6_minute_19 : decode cX6_minute 19 = .ok (.iconst 1, 1) := by decide +kernel
theorem dX6_minute_20 : decode cX6_minute 20 = .ok (.invokevirtual 222, 3) := by decide +kernel
theorem dX6_minute_23 : decode cX6_minute 23 = .ok (.aload_n 0, 1) := by decide +kernel
theorem dX6_minute_24 : decode cX6_minute 24 = .ok (.getfield 22, 3) := by decide +kernel
theorem dX6_minute_27 : decode cX6_minute 27 = .ok (.getfield 254, 3) := by decide +kernel
theorem dX6_minute_30 : decode cX6_minute 30 = .ok (.ireturn, 1) := by decide +kernel
theorem dX6_night_0 : decode cX6_night 0 = .ok (.aload_n 0, 1) := by decide +kernel
theorem dX6_night_1 : decode cX6_night 1 = .ok (.getfield 22, 3) := by decide +kernel
theorem dX6_night_4 : decode cX6_night 4 = .ok (.invokevirtual 242, 3) := by decide +kernel
theorem dX6_night_7 : decode cX6_night 7 = .ok (.ireturn, 1) := by decide +kernel
theorem dX6_afternoon_0 : decode cX6_afternoon 0 = .ok (.iload_n 1, 1) := by decide +kernel
theorem dX6_afternoon_1 : decode cX6_afternoon 1 = .ok (.iconst 1, 1) := by decide +kernel
theorem dX6_afternoon_2 : decode cX6_afternoon 2 = .ok (.if_icmp .lt 10, 3) := by decide +kernel
theorem dX6_afternoon_5 : decode cX6_afternoon 5 = .ok (.iload_n 1, 1) := by decide +kernel
theorem dX6_afternoon_6 : decode cX6_afternoon 6 = .ok (.sipush 240, 3) := by decide +kernel
theorem dX6_afternoon_9 : decode cX6_afternoon 9 = .ok (.if_icmp .le 10, 3) := by decide +kernel
theorem dX6_afternoon_12 : decode cX6_afternoon 12 = .ok (.aload_n 0, 1) := by decide +kernel
theorem dX6_afternoon_13 : decode cX6_afternoon 13 = .ok (.bipush (-6), 2) := by decide +kernel
theorem dX6_afternoon_15 : decode cX6_afternoon 15 = .ok (.invokevirtual 51, 3) := by decide +kernel
theorem dX6_afternoon_18 : decode cX6_afternoon 18 = .ok (.ireturn, 1) := by decide +kernel
theorem dX6_afternoon_19 : decode cX6_afternoon 19 = .ok (.aload_n 0, 1) := by decide +kernel
theorem dX6_afternoon_20 : decode cX6_afternoon 20 = .ok (.getfield 22, 3) := by decide +kernel
theorem dX6_afternoon_23 : decode cX6_afternoon 23 = .ok (.getfield 225, 3) := by decide +kernel
theorem dX6_afternoon_26 : decode cX6_afternoon 26 = .ok (.istore_n 2, 1) := by decide +kernel
theorem dX6_afternoon_27 : decode cX6_afternoon 27 = .ok (.aload_n 0, 1) := by decide +kernel
theorem dX6_afternoon_28 : decode cX6_afternoon 28 = .ok (.getfield 22, 3) := by decide +kernel
theorem dX6_afternoon_31 : decode cX6_afternoon 31 = .ok (.iload_n 1, 1) := by decide +kernel
theorem dX6_afternoon_32 : decode cX6_afternoon 32 = .ok (.invokevirtual 257, 3) := by decide +kernel
theorem dX6_afternoon_35 : decode cX6_afternoon 35 = .ok (.aload_n 0, 1) := by decide +kernel
theorem dX6_afternoon_36 : decode cX6_afternoon 36 = .ok (.getfield 22, 3) := by decide +kernel
theorem dX6_afternoon_39 : decode cX6_afternoon 39 = .ok (.getfield 225, 3) := by decide +kernel
theorem dX6_afternoon_42 : decode cX6_afternoon 42 = .ok (.iload_n 2, 1) := by decide +kernel
theorem dX6_afternoon_43 : decode cX6_afternoon 43 = .ok (.isub, 1) := by decide +kernel
theorem dX6_afternoon_44 : decode cX6_afternoon 44 = .ok (.ireturn, 1) := by decide +kernel
theorem dX6_seed_0 : decode cX6_seed 0 = .ok (.aload_n 0, 1) := by decide +kernel
theorem dX6_seed_1 : decode cX6_seed 1 = .ok (.getfield 22, 3) := by decide +kernel
theorem dX6_seed_4 : decode cX6_seed 4 = .ok (.getfield 260, 3) := by decide +kernel
theorem dX6_seed_7 : decode cX6_seed 7 = .ok (.istore_n 2, 1) := by decide +kernel
theorem dX6_seed_8 : decode cX6_seed 8 = .ok (.aload_n 0, 1) := by decide +kernel
theorem dX6_seed_9 : decode cX6_seed 9 = .ok (.getfield 22, 3) := by decide +kernel
theorem dX6_seed_12 : decode cX6_seed 12 = .ok (.iload_n 1, 1) := by decide +kernel
theorem dX6_seed_13 : decode cX6_seed 13 = .ok (.putfield 260, 3) := by decide +kernel
theorem dX6_seed_16 : decode cX6_seed 16 = .ok (.iload_n 2, 1) := by decide +kernel
theorem dX6_seed_17 : decode cX6_seed 17 = .ok (.ireturn, 1) := by decide +kernel
theorem dX6_act_0 : decode cX6_act 0 = .ok (.aload_n 0, 1) := by decide +kernel
theorem dX6_act_1 : decode cX6_act 1 = .ok (.getfield 42, 3) := by decide +kernel
theorem dX6_act_4 : decode cX6_act 4 = .ok (.iconst 0, 1) := by decide +kernel
theorem dX6_act_5 : decode cX6_act 5 = .ok (.putfield 263, 3) := by decide +kernel
theorem dX6_act_8 : decode cX6_act 8 = .ok (.aload_n 0, 1) := by decide +kernel
theorem dX6_act_9 : decode cX6_act 9 = .ok (.iload_n 1, 1) := by decide +kernel
theorem dX6_act_10 : decode cX6_act 10 = .ok (.invokevirtual 94, 3) := by decide +kernel
theorem dX6_act_13 : decode cX6_act 13 = .ok (.ifCond .eq 12, 3) := by decide +kernel
theorem dX6_act_16 : decode cX6_act 16 = .ok (.iload_n 2, 1) := by decide +kernel
theorem dX6_act_17 : decode cX6_act 17 = .ok (.ifCond .lt 8, 3) := by decide +kernel
theorem dX6_act_20 : decode cX6_act 20 = .ok (.iload_n 2, 1) := by decide +kernel
theorem dX6_act_21 : decode cX6_act 21 = .ok (.iconst 3, 1) := by decide +kernel
theorem dX6_act_22 : decode cX6_act 22 = .ok (.if_icmp .lt 5, 3) := by decide +kernel
theorem dX6_act_25 : decode cX6_act 25 = .ok (.iconst 0, 1) := by decide +kernel
theorem dX6_act_26 : decode cX6_act 26 = .ok (.ireturn, 1) := by decide +kernel
theorem dX6_act_27 : decode cX6_act 27 = .ok (.aload_n 0, 1) := by decide +kernel
theorem dX6_act_28 : decode cX6_act 28 = .ok (.getfield 42, 3) := by decide +kernel
theorem dX6_act_31 : decode cX6_act 31 = .ok (.aload_n 0, 1) := by decide +kernel
theorem dX6_act_32 : decode cX6_act 32 = .ok (.getfield 22, 3) := by decide +kernel
theorem dX6_act_35 : decode cX6_act 35 = .ok (.getfield 104, 3) := by decide +kernel
theorem dX6_act_38 : decode cX6_act 38 = .ok (.iload_n 1, 1) := by decide +kernel
theorem dX6_act_39 : decode cX6_act 39 = .ok (.aaload, 1) := by decide +kernel
theorem dX6_act_40 : decode cX6_act 40 = .ok (.getfield 130, 3) := by decide +kernel
theorem dX6_act_43 : decode cX6_act 43 = .ok (.putfield 266, 3) := by decide +kernel
theorem dX6_act_46 : decode cX6_act 46 = .ok (.aload_n 0, 1) := by decide +kernel
theorem dX6_act_47 : decode cX6_act 47 = .ok (.getfield 42, 3) := by decide +kernel
theorem dX6_act_50 : decode cX6_act 50 = .ok (.iload_n 1, 1) := by decide +kernel
theorem dX6_act_51 : decode cX6_act 51 = .ok (.putfield 267, 3) := by decide +kernel
theorem dX6_act_54 : decode cX6_act 54 = .ok (.aload_n 0, 1) := by decide +kernel
theorem dX6_act_55 : decode cX6_act 55 = .ok (.getfield 42, 3) := by decide +kernel
theorem dX6_act_58 : decode cX6_act 58 = .ok (.aload_n 0, 1) := by decide +kernel
theorem dX6_act_59 : decode cX6_act 59 = .ok (.getfield 22, 3) := by decide +kernel
theorem dX6_act_62 : decode cX6_act 62 = .ok (.getfield 104, 3) := by decide +kernel
theorem dX6_act_65 : decode cX6_act 65 = .ok (.iload_n 1, 1) := by decide +kernel
theorem dX6_act_66 : decode cX6_act 66 = .ok (.aaload, 1) := by decide +kernel
theorem dX6_act_67 : decode cX6_act 67 = .ok (.getfield 133, 3) := by decide +kernel
theorem dX6_act_70 : decode cX6_act 70 = .ok (.putfield 270, 3) := by decide +kernel
theorem dX6_act_73 : decode cX6_act 73 = .ok (.aload_n 0, 1) := by decide +kernel
theorem dX6_act_74 : decode cX6_act 74 = .ok (.getfield 42, 3) := by decide +kernel
theorem dX6_act_77 : decode cX6_act 77 = .ok (.aload_n 0, 1) := by decide +kernel
theorem dX6_act_78 : decode cX6_act 78 = .ok (.getfield 42, 3) := by decide +kernel
theorem dX6_act_81 : decode cX6_act 81 = .ok (.getfield 266, 3) := by decide +kernel
theorem dX6_act_84 : decode cX6_act 84 = .ok (.iload_n 2, 1) := by decide +kernel
theorem dX6_act_85 : decode cX6_act 85 = .ok (.iload_n 3, 1) := by decide +kernel
theorem dX6_act_86 : decode cX6_act 86 = .ok (.iconst 0, 1) := by decide +kernel
theorem dX6_act_87 : decode cX6_act 87 = .ok (.invokestatic 273, 3) := by decide +kernel
theorem dX6_act_90 : decode cX6_act 90 = .ok (.ireturn, 1) := by decide +kernel
theorem dX6_trace_0 : decode cX6_trace 0 = .ok (.iload_n 1, 1) := by decide +kernel
theorem dX6_trace_1 : decode cX6_trace 1 = .ok (.ifCond .lt 20, 3) := by decide +kernel
theorem dX6_trace_4 : decode cX6_trace 4 = .ok (.iload_n 1, 1) := by decide +kernel
theorem dX6_trace_5 : decode cX6_trace 5 = .ok (.bipush 20, 2) := by decide +kernel
theorem dX6_trace_7 : decode cX6_trace 7 = .ok (.if_icmp .ge 14, 3) := by decide +kernel
theorem dX6_trace_10 : decode cX6_trace 10 = .ok (.iload_n 1, 1) := by decide +kernel
theorem dX6_trace_11 : decode cX6_trace 11 = .ok (.aload_n 0, 1) := by decide +kernel
theorem dX6_trace_12 : decode cX6_trace 12 = .ok (.getfield 42, 3) := by decide +kernel
theorem dX6_trace_15 : decode cX6_trace 15 = .ok (.getfield 263, 3) := by decide +kernel
theorem dX6_trace_18 : decode cX6_trace 18 = .ok (.if_icmp .lt 5, 3) := by decide +kernel
theorem dX6_trace_21 : decode cX6_trace 21 = .ok (.iconst (-1), 1) := by decide +kernel
theorem dX6_trace_22 : decode cX6_trace 22 = .ok (.ireturn, 1) := by decide +kernel
theorem dX6_trace_23 : decode cX6_trace 23 = .ok (.aload_n 0, 1) := by decide +kernel
theorem dX6_trace_24 : decode cX6_trace 24 = .ok (.getfield 42, 3) := by decide +kernel
theorem dX6_trace_27 : decode cX6_trace 27 = .ok (.getfield 277, 3) := by decide +kernel
theorem dX6_trace_30 : decode cX6_trace 30 = .ok (.iload_n 1, 1) := by decide +kernel
theorem dX6_trace_31 : decode cX6_trace 31 = .ok (.iaload, 1) := by decide +kernel
theorem dX6_trace_32 : decode cX6_trace 32 = .ok (.ireturn, 1) := by decide +kernel
theorem dX6_image_0 : decode cX6_image 0 = .ok (.aload_n 0, 1) := by decide +kernel
theorem dX6_image_1 : decode cX6_image 1 = .ok (.getfield 29, 3) := by decide +kernel
theorem dX6_image_4 : decode cX6_image 4 = .ok (.aload_n 0, 1) := by decide +kernel
theorem dX6_image_5 : decode cX6_image 5 = .ok (.getfield 22, 3) := by decide +kernel
theorem dX6_image_8 : decode cX6_image 8 = .ok (.invokevirtual 192, 3) := by decide +kernel
theorem dX6_image_11 : decode cX6_image 11 = .ok (.aload_n 0, 1) := by decide +kernel
theorem dX6_image_12 : decode cX6_image 12 = .ok (.iconst 1, 1) := by decide +kernel
theorem dX6_image_13 : decode cX6_image 13 = .ok (.putfield 280, 3) := by decide +kernel
theorem dX6_image_16 : decode cX6_image 16 = .ok (.aload_n 0, 1) := by decide +kernel
theorem dX6_image_17 : decode cX6_image 17 = .ok (.getfield 22, 3) := by decide +kernel
theorem dX6_image_20 : decode cX6_image 20 = .ok (.getfield 116, 3) := by decide +kernel
theorem dX6_image_23 : decode cX6_image 23 = .ok (.ireturn, 1) := by decide +kernel
theorem dX6_restore_0 : decode cX6_restore 0 = .ok (.aload_n 0, 1) := by decide +kernel
theorem dX6_restore_1 : decode cX6_restore 1 = .ok (.getfield 280, 3) := by decide +kernel
theorem dX6_restore_4 : decode cX6_restore 4 = .ok (.ifCond .ne 10, 3) := by decide +kernel
theorem dX6_restore_7 : decode cX6_restore 7 = .ok (.aload_n 0, 1) := by decide +kernel
theorem dX6_restore_8 : decode cX6_restore 8 = .ok (.bipush (-6), 2) := by decide +kernel
theorem dX6_restore_10 : decode cX6_restore 10 = .ok (.invokevirtual 51, 3) := by decide +kernel
theorem dX6_restore_13 : decode cX6_restore 13 = .ok (.ireturn, 1) := by decide +kernel
theorem dX6_restore_14 : decode cX6_restore 14 = .ok (.aload_n 0, 1) := by decide +kernel
theorem dX6_restore_15 : decode cX6_restore 15 = .ok (.getfield 22, 3) := by decide +kernel
theorem dX6_restore_18 : decode cX6_restore 18 = .ok (.aload_n 0, 1) := by decide +kernel
theorem dX6_restore_19 : decode cX6_restore 19 = .ok (.getfield 29, 3) := by decide +kernel
theorem dX6_restore_22 : decode cX6_restore 22 = .ok (.invokevirtual 192, 3) := by decide +kernel
theorem dX6_restore_25 : decode cX6_restore 25 = .ok (.iconst 0, 1) := by decide +kernel
theorem dX6_restore_26 : decode cX6_restore 26 = .ok (.istore_n 1, 1) := by decide +kernel
theorem dX6_restore_27 : decode cX6_restore 27 = .ok (.iload_n 1, 1) := by decide +kernel
theorem dX6_restore_28 : decode cX6_restore 28 = .ok (.bipush 8, 2) := by decide +kernel
theorem dX6_restore_30 : decode cX6_restore 30 = .ok (.if_icmp .ge 47, 3) := by decide +kernel
theorem dX6_restore_33 : decode cX6_restore 33 = .ok (.aload_n 0, 1) := by decide +kernel
theorem dX6_restore_34 : decode cX6_restore 34 = .ok (.getfield 11, 3) := by decide +kernel
theorem dX6_restore_37 : decode cX6_restore 37 = .ok (.iload_n 1, 1) := by decide +kernel
theorem dX6_restore_38 : decode cX6_restore 38 = .ok (.aaload, 1) := by decide +kernel
theorem dX6_restore_39 : decode cX6_restore 39 = .ok (.invokevirtual 70, 3) := by decide +kernel
theorem dX6_restore_42 : decode cX6_restore 42 = .ok (.ifCond .eq 29, 3) := by decide +kernel
theorem dX6_restore_45 : decode cX6_restore 45 = .ok (.aload_n 0, 1) := by decide +kernel
theorem dX6_restore_46 : decode cX6_restore 46 = .ok (.aload_n 0, 1) := by decide +kernel
theorem dX6_restore_47 : decode cX6_restore 47 = .ok (.getfield 11, 3) := by decide +kernel
theorem dX6_restore_50 : decode cX6_restore 50 = .ok (.iload_n 1, 1) := by decide +kernel
theorem dX6_restore_51 : decode cX6_restore 51 = .ok (.aaload, 1) := by decide +kernel
theorem dX6_restore_52 : decode cX6_restore 52 = .ok (.getfield 77, 3) := by decide +kernel
theorem dX6_restore_55 : decode cX6_restore 55 = .ok (.invokevirtual 94, 3) := by decide +kernel
theorem dX6_restore_58 : decode cX6_restore 58 = .ok (.ifCond .ne 13, 3) := by decide +kernel
theorem dX6_restore_61 : decode cX6_restore 61 = .ok (.aload_n 0, 1) := by decide +kernel
theorem dX6_restore_62 : decode cX6_restore 62 = .ok (.getfield 11, 3) := by decide +kernel
theorem dX6_restore_65 : decode cX6_restore 65 = .ok (.iload_n 1, 1) := by decide +kernel
theorem dX6_restore_66 : decode cX6_restore 66 = .ok (.aaload, 1) := by decide +kernel
theorem dX6_restore_67 : decode cX6_restore 67 = .ok (.iconst (-1), 1) := by decide +kernel
theorem dX6_restore_68 : decode cX6_restore 68 = .ok (.invokevirtual 97, 3) := by decide +kernel
theorem dX6_restore_71 : decode cX6_restore 71 = .ok (.iinc 1 1, 3) := by decide +kernel
theorem dX6_restore_74 : decode cX6_restore 74 = .ok (.goto (-47), 3) := by decide +kernel
theorem dX6_restore_77 : decode cX6_restore 77 = .ok (.aload_n 0, 1) := by decide +kernel
theorem dX6_restore_78 : decode cX6_restore 78 = .ok (.getfield 22, 3) := by decide +kernel
theorem dX6_restore_81 : decode cX6_restore 81 = .ok (.getfield 116, 3) := by decide +kernel
theorem dX6_restore_84 : decode cX6_restore 84 = .ok (.ireturn, 1) := by decide +kernel
theorem dX6_status_0 : decode cX6_status 0 = .ok (.iload_n 1, 1) := by decide +kernel
theorem dX6_status_1 : decode cX6_status 1 = .ok (.tableswitch 123 0 8 #[51, 59, 67, 75, 83, 91, 99, 107, 115], 51) := by decide +kernel
theorem dX6_status_52 : decode cX6_status 52 = .ok (.aload_n 0, 1) := by decide +kernel
theorem dX6_status_53 : decode cX6_status 53 = .ok (.getfield 22, 3) := by decide +kernel
theorem dX6_status_56 : decode cX6_status 56 = .ok (.getfield 116, 3) := by decide +kernel
theorem dX6_status_59 : decode cX6_status 59 = .ok (.ireturn, 1) := by decide +kernel
theorem dX6_status_60 : decode cX6_status 60 = .ok (.aload_n 0, 1) := by decide +kernel
theorem dX6_status_61 : decode cX6_status 61 = .ok (.getfield 22, 3) := by decide +kernel
theorem dX6_status_64 : decode cX6_status 64 = .ok (.getfield 123, 3) := by decide +kernel
theorem dX6_status_67 : decode cX6_status 67 = .ok (.ireturn, 1) := by decide +kernel
theorem dX6_status_68 : decode cX6_status 68 = .ok (.aload_n 0, 1) := by decide +kernel
theorem dX6_status_69 : decode cX6_status 69 = .ok (.getfield 22, 3) := by decide +kernel
theorem dX6_status_72 : decode cX6_status 72 = .ok (.getfield 254, 3) := by decide +kernel
theorem dX6_status_75 : decode cX6_status 75 = .ok (.ireturn, 1) := by decide +kernel
theorem dX6_status_76 : decode cX6_status 76 = .ok (.aload_n 0, 1) := by decide +kernel
theorem dX6_status_77 : decode cX6_status 77 = .ok (.getfield 22, 3) := by decide +kernel
theorem dX6_status_80 : decode cX6_status 80 = .ok (.getfield 208, 3) := by decide +kernel
theorem dX6_status_83 : decode cX6_status 83 = .ok (.ireturn, 1) := by decide +kernel
theorem dX6_status_84 : decode cX6_status 84 = .ok (.aload_n 0, 1) := by decide +kernel
theorem dX6_status_85 : decode cX6_status 85 = .ok (.getfield 22, 3) := by decide +kernel
theorem dX6_status_88 : decode cX6_status 88 = .ok (.getfield 176, 3) := by decide +kernel
theorem dX6_status_91 : decode cX6_status 91 = .ok (.ireturn, 1) := by decide +kernel
theorem dX6_status_92 : decode cX6_status 92 = .ok (.aload_n 0, 1) := by decide +kernel
theorem dX6_status_93 : decode cX6_status 93 = .ok (.getfield 22, 3) := by decide +kernel
theorem dX6_status_96 : decode cX6_status 96 = .ok (.getfield 179, 3) := by decide +kernel
theorem dX6_status_99 : decode cX6_status 99 = .ok (.ireturn, 1) := by decide +kernel
theorem dX6_status_100 : decode cX6_status 100 = .ok (.aload_n 0, 1) := by decide +kernel
theorem dX6_status_101 : decode cX6_status 101 = .ok (.getfield 22, 3) := by decide +kernel
theorem dX6_status_104 : decode cX6_status 104 = .ok (.getfield 225, 3) := by decide +kernel
theorem dX6_status_107 : decode cX6_status 107 = .ok (.ireturn, 1) := by decide +kernel
theorem dX6_status_108 : decode cX6_status 108 = .ok (.aload_n 0, 1) := by decide +kernel
theorem dX6_status_109 : decode cX6_status 109 = .ok (.getfield 22, 3) := by decide +kernel
theorem dX6_status_112 : decode cX6_status 112 = .ok (.getfield 260, 3) := by decide +kernel
theorem dX6_status_115 : decode cX6_status 115 = .ok (.ireturn, 1) := by decide +kernel
theorem dX6_status_116 : decode cX6_status 116 = .ok (.aload_n 0, 1) := by decide +kernel
theorem dX6_status_117 : decode cX6_status 117 = .ok (.getfield 42, 3) := by decide +kernel
theorem dX6_status_120 : decode cX6_status 120 = .ok (.getfield 263, 3) := by decide +kernel
theorem dX6_status_123 : decode cX6_status 123 = .ok (.ireturn, 1) := by decide +kernel
theorem dX6_status_124 : decode cX6_status 124 = .ok (.iload_n 1, 1) := by decide +kernel
theorem dX6_status_125 : decode cX6_status 125 = .ok (.bipush 11, 2) := by decide +kernel
theorem dX6_status_127 : decode cX6_status 127 = .ok (.if_icmp .lt 21, 3) := by decide +kernel
theorem dX6_status_130 : decode cX6_status 130 = .ok (.iload_n 1, 1) := by decide +kernel
theorem dX6_status_131 : decode cX6_status 131 = .ok (.bipush 17, 2) := by decide +kernel
theorem dX6_status_133 : decode cX6_status 133 = .ok (.if_icmp .gt 15, 3) := by decide +kernel
theorem dX6_status_136 : decode cX6_status 136 = .ok (.aload_n 0, 1) := by decide +kernel
theorem dX6_status_137 : decode cX6_status 137 = .ok (.getfield 15, 3) := by decide +kernel
theorem dX6_status_140 : decode cX6_status 140 = .ok (.iload_n 1, 1) := by decide +kernel
theorem dX6_status_141 : decode cX6_status 141 = .ok (.bipush 10, 2) := by decide +kernel
theorem dX6_status_143 : decode cX6_status 143 = .ok (.isub, 1) := by decide +kernel
theorem dX6_status_144 : decode cX6_status 144 = .ok (.iaload, 1) := by decide +kernel
theorem dX6_status_145 : decode cX6_status 145 = .ok (.goto 4, 3) := by decide +kernel
theorem dX6_status_148 : decode cX6_status 148 = .ok (.iconst (-1), 1) := by decide +kernel
theorem dX6_status_149 : decode cX6_status 149 = .ok (.ireturn, 1) := by decide +kernel
theorem dX6_isShelf_0 : decode cX6_isShelf 0 = .ok (.iload_n 0, 1) := by decide +kernel
theorem dX6_isShelf_1 : decode cX6_isShelf 1 = .ok (.ifCond .lt 13, 3) := by decide +kernel
theorem dX6_isShelf_4 : decode cX6_isShelf 4 = .ok (.iload_n 0, 1) := by decide +kernel
theorem dX6_isShelf_5 : decode cX6_isShelf 5 = .ok (.bipush 8, 2) := by decide +kernel
theorem dX6_isShelf_7 : decode cX6_isShelf 7 = .ok (.if_icmp .ge 7, 3) := by decide +kernel
theorem dX6_isShelf_10 : decode cX6_isShelf 10 = .ok (.iconst 1, 1) := by decide +kernel
theorem dX6_isShelf_11 : decode cX6_isShelf 11 = .ok (.goto 4, 3) := by decide +kernel
theorem dX6_isShelf_14 : decode cX6_isShelf 14 = .ok (.iconst 0, 1) := by decide +kernel
theorem dX6_isShelf_15 : decode cX6_isShelf 15 = .ok (.ireturn, 1) := by decide +kernel
theorem dX6_isKind_0 : decode cX6_isKind 0 = .ok (.iload_n 0, 1) := by decide +kernel
theorem dX6_isKind_1 : decode cX6_isKind 1 = .ok (.ifCond .lt 13, 3) := by decide +kernel
theorem dX6_isKind_4 : decode cX6_isKind 4 = .ok (.iload_n 0, 1) := by decide +kernel
theorem dX6_isKind_5 : decode cX6_isKind 5 = .ok (.bipush 7, 2) := by decide +kernel
theorem dX6_isKind_7 : decode cX6_isKind 7 = .ok (.if_icmp .ge 7, 3) := by decide +kernel
theorem dX6_isKind_10 : decode cX6_isKind 10 = .ok (.iconst 1, 1) := by decide +kernel
theorem dX6_isKind_11 : decode cX6_isKind 11 = .ok (.goto 4, 3) := by decide +kernel
theorem dX6_isKind_14 : decode cX6_isKind 14 = .ok (.iconst 0, 1) := by decide +kernel
theorem dX6_isKind_15 : decode cX6_isKind 15 = .ok (.ireturn, 1) := by decide +kernel
theorem dX6_isRule_0 : decode cX6_isRule 0 = .ok (.iload_n 0, 1) := by decide +kernel
theorem dX6_isRule_1 : decode cX6_isRule 1 = .ok (.ifCond .lt 12, 3) := by decide +kernel
theorem dX6_isRule_4 : decode cX6_isRule 4 = .ok (.iload_n 0, 1) := by decide +kernel
theorem dX6_isRule_5 : decode cX6_isRule 5 = .ok (.iconst 4, 1) := by decide +kernel
theorem dX6_isRule_6 : decode cX6_isRule 6 = .ok (.if_icmp .ge 7, 3) := by decide +kernel
theorem dX6_isRule_9 : decode cX6_isRule 9 = .ok (.iconst 1, 1) := by decide +kernel
theorem dX6_isRule_10 : decode cX6_isRule 10 = .ok (.goto 4, 3) := by decide +kernel
theorem dX6_isRule_13 : decode cX6_isRule 13 = .ok (.iconst 0, 1) := by decide +kernel
theorem dX6_isRule_14 : decode cX6_isRule 14 = .ok (.ireturn, 1) := by decide +kernel
theorem dX6_isTime_0 : decode cX6_isTime 0 = .ok (.iload_n 0, 1) := by decide +kernel
theorem dX6_isTime_1 : decode cX6_isTime 1 = .ok (.ifCond .lt 14, 3) := by decide +kernel
theorem dX6_isTime_4 : decode cX6_isTime 4 = .ok (.iload_n 0, 1) := by decide +kernel
theorem dX6_isTime_5 : decode cX6_isTime 5 = .ok (.sipush 240, 3) := by decide +kernel
theorem dX6_isTime_8 : decode cX6_isTime 8 = .ok (.if_icmp .gt 7, 3) := by decide +kernel
theorem dX6_isTime_11 : decode cX6_isTime 11 = .ok (.iconst 1, 1) := by decide +kernel
theorem dX6_isTime_12 : decode cX6_isTime 12 = .ok (.goto 4, 3) := by decide +kernel
theorem dX6_isTime_15 : decode cX6_isTime 15 = .ok (.iconst 0, 1) := by decide +kernel
theorem dX6_isTime_16 : decode cX6_isTime 16 = .ok (.ireturn, 1) := by decide +kernel
theorem dX6_isShop_0 : decode cX6_isShop 0 = .ok (.iload_n 1, 1) := by decide +kernel
theorem dX6_isShop_1 : decode cX6_isShop 1 = .ok (.ifCond .lt 18, 3) := by decide +kernel
theorem dX6_isShop_4 : decode cX6_isShop 4 = .ok (.iload_n 1, 1) := by decide +kernel
theorem dX6_isShop_5 : decode cX6_isShop 5 = .ok (.aload_n 0, 1) := by decide +kernel
theorem dX6_isShop_6 : decode cX6_isShop 6 = .ok (.getfield 22, 3) := by decide +kernel
theorem dX6_isShop_9 : decode cX6_isShop 9 = .ok (.getfield 116, 3) := by decide +kernel
theorem dX6_isShop_12 : decode cX6_isShop 12 = .ok (.if_icmp .ge 7, 3) := by decide +kernel
theorem dX6_isShop_15 : decode cX6_isShop 15 = .ok (.iconst 1, 1) := by decide +kernel
theorem dX6_isShop_16 : decode cX6_isShop 16 = .ok (.goto 4, 3) := by decide +kernel
theorem dX6_isShop_19 : decode cX6_isShop 19 = .ok (.iconst 0, 1) := by decide +kernel
theorem dX6_isShop_20 : decode cX6_isShop 20 = .ok (.ireturn, 1) := by decide +kernel
theorem dX6_isChild_0 : decode cX6_isChild 0 = .ok (.iload_n 1, 1) := by decide +kernel
theorem dX6_isChild_1 : decode cX6_isChild 1 = .ok (.ifCond .lt 18, 3) := by decide +kernel
theorem dX6_isChild_4 : decode cX6_isChild 4 = .ok (.iload_n 1, 1) := by decide +kernel
theorem dX6_isChild_5 : decode cX6_isChild 5 = .ok (.aload_n 0, 1) := by decide +kernel
theorem dX6_isChild_6 : decode cX6_isChild 6 = .ok (.getfield 22, 3) := by decide +kernel
theorem dX6_isChild_9 : decode cX6_isChild 9 = .ok (.getfield 123, 3) := by decide +kernel
theorem dX6_isChild_12 : decode cX6_isChild 12 = .ok (.if_icmp .ge 7, 3) := by decide +kernel
theorem dX6_isChild_15 : decode cX6_isChild 15 = .ok (.iconst 1, 1) := by decide +kernel
theorem dX6_isChild_16 : decode cX6_isChild 16 = .ok (.goto 4, 3) := by decide +kernel
theorem dX6_isChild_19 : decode cX6_isChild 19 = .ok (.iconst 0, 1) := by decide +kernel
theorem dX6_isChild_20 : decode cX6_isChild 20 = .ok (.ireturn, 1) := by decide +kernel
theorem dX6_refuse_0 : decode cX6_refuse 0 = .ok (.iload_n 1, 1) := by decide +kernel
theorem dX6_refuse_1 : decode cX6_refuse 1 = .ok (.ineg, 1) := by decide +kernel
theorem dX6_refuse_2 : decode cX6_refuse 2 = .ok (.bipush 10, 2) := by decide +kernel
theorem dX6_refuse_4 : decode cX6_refuse 4 = .ok (.irem, 1) := by decide +kernel
theorem dX6_refuse_5 : decode cX6_refuse 5 = .ok (.istore_n 2, 1) := by decide +kernel
theorem dX6_refuse_6 : decode cX6_refuse 6 = .ok (.iload_n 2, 1) := by decide +kernel
theorem dX6_refuse_7 : decode cX6_refuse 7 = .ok (.ifCond .le 22, 3) := by decide +kernel
theorem dX6_refuse_10 : decode cX6_refuse 10 = .ok (.iload_n 2, 1) := by decide +kernel
theorem dX6_refuse_11 : decode cX6_refuse 11 = .ok (.aload_n 0, 1) := by decide +kernel
theorem dX6_refuse_12 : decode cX6_refuse 12 = .ok (.getfield 15, 3) := by decide +kernel
theorem dX6_refuse_15 : decode cX6_refuse 15 = .ok (.arraylength, 1) := by decide +kernel
theorem dX6_refuse_16 : decode cX6_refuse 16 = .ok (.if_icmp .ge 13, 3) := by decide +kernel
theorem dX6_refuse_19 : decode cX6_refuse 19 = .ok (.aload_n 0, 1) := by decide +kernel
theorem dX6_refuse_20 : decode cX6_refuse 20 = .ok (.getfield 15, 3) := by decide +kernel
theorem dX6_refuse_23 : decode cX6_refuse 23 = .ok (.iload_n 2, 1) := by decide +kernel
theorem dX6_refuse_24 : decode cX6_refuse 24 = .ok (.dup2, 1) := by decide +kernel
theorem dX6_refuse_25 : decode cX6_refuse 25 = .ok (.iaload, 1) := by decide +kernel
theorem dX6_refuse_26 : decode cX6_refuse 26 = .ok (.iconst 1, 1) := by decide +kernel
theorem dX6_refuse_27 : decode cX6_refuse 27 = .ok (.iadd, 1) := by decide +kernel
theorem dX6_refuse_28 : decode cX6_refuse 28 = .ok (.iastore, 1) := by decide +kernel
theorem dX6_refuse_29 : decode cX6_refuse 29 = .ok (.iload_n 1, 1) := by decide +kernel
theorem dX6_refuse_30 : decode cX6_refuse 30 = .ok (.ireturn, 1) := by decide +kernel
theorem dX6_rowTrouble_0 : decode cX6_rowTrouble 0 = .ok (.iload_n 1, 1) := by decide +kernel
theorem dX6_rowTrouble_1 : decode cX6_rowTrouble 1 = .ok (.invokestatic 47, 3) := by decide +kernel
theorem dX6_rowTrouble_4 : decode cX6_rowTrouble 4 = .ok (.ifCond .ne 5, 3) := by decide +kernel
theorem dX6_rowTrouble_7 : decode cX6_rowTrouble 7 = .ok (.iconst (-1), 1) := by decide +kernel
theorem dX6_rowTrouble_8 : decode cX6_rowTrouble 8 = .ok (.ireturn, 1) := by decide +kernel
theorem dX6_rowTrouble_9 : decode cX6_rowTrouble 9 = .ok (.aload_n 0, 1) := by decide +kernel
theorem dX6_rowTrouble_10 : decode cX6_rowTrouble 10 = .ok (.getfield 11, 3) := by decide +kernel
theorem dX6_rowTrouble_13 : decode cX6_rowTrouble 13 = .ok (.iload_n 1, 1) := by decide +kernel
theorem dX6_rowTrouble_14 : decode cX6_rowTrouble 14 = .ok (.aaload, 1) := by decide +kernel
theorem dX6_rowTrouble_15 : decode cX6_rowTrouble 15 = .ok (.invokevirtual 70, 3) := by decide +kernel
theorem dX6_rowTrouble_18 : decode cX6_rowTrouble 18 = .ok (.ifCond .eq 6, 3) := by decide +kernel
theorem dX6_rowTrouble_21 : decode cX6_rowTrouble 21 = .ok (.bipush (-2), 2) := by decide +kernel
theorem dX6_rowTrouble_23 : decode cX6_rowTrouble 23 = .ok (.ireturn, 1) := by decide +kernel
theorem dX6_rowTrouble_24 : decode cX6_rowTrouble 24 = .ok (.aload_n 0, 1) := by decide +kernel
theorem dX6_rowTrouble_25 : decode cX6_rowTrouble 25 = .ok (.getfield 11, 3) := by decide +kernel
theorem dX6_rowTrouble_28 : decode cX6_rowTrouble 28 = .ok (.iload_n 1, 1) := by decide +kernel
theorem dX6_rowTrouble_29 : decode cX6_rowTrouble 29 = .ok (.aaload, 1) := by decide +kernel
theorem dX6_rowTrouble_30 : decode cX6_rowTrouble 30 = .ok (.invokevirtual 74, 3) := by decide +kernel
theorem dX6_rowTrouble_33 : decode cX6_rowTrouble 33 = .ok (.ifCond .eq 7, 3) := by decide +kernel
theorem dX6_rowTrouble_36 : decode cX6_rowTrouble 36 = .ok (.iconst 0, 1) := by decide +kernel
theorem dX6_rowTrouble_37 : decode cX6_rowTrouble 37 = .ok (.goto 5, 3) := by decide +kernel
theorem dX6_rowTrouble_40 : decode cX6_rowTrouble 40 = .ok (.bipush (-3), 2) := by decide +kernel
theorem dX6_rowTrouble_42 : decode cX6_rowTrouble 42 = .ok (.ireturn, 1) := by decide +kernel
theorem dX6_toldTrouble_0 : decode cX6_toldTrouble 0 = .ok (.aload_n 0, 1) := by decide +kernel
theorem dX6_toldTrouble_1 : decode cX6_toldTrouble 1 = .ok (.iload_n 1, 1) := by decide +kernel
theorem dX6_toldTrouble_2 : decode cX6_toldTrouble 2 = .ok (.invokevirtual 59, 3) := by decide +kernel
theorem dX6_toldTrouble_5 : decode cX6_toldTrouble 5 = .ok (.istore_n 3, 1) := by decide +kernel
theorem dX6_toldTrouble_6 : decode cX6_toldTrouble 6 = .ok (.iload_n 3, 1) := by decide +kernel
theorem dX6_toldTrouble_7 : decode cX6_toldTrouble 7 = .ok (.ifCond .eq 5, 3) := by decide +kernel
theorem dX6_toldTrouble_10 : decode cX6_toldTrouble 10 = .ok (.iload_n 3, 1) := by decide +kernel
theorem dX6_toldTrouble_11 : decode cX6_toldTrouble 11 = .ok (.ireturn, 1) := by decide +kernel
theorem dX6_toldTrouble_12 : decode cX6_toldTrouble 12 = .ok (.iload_n 2, 1) := by decide +kernel
theorem dX6_toldTrouble_13 : decode cX6_toldTrouble 13 = .ok (.ifCond .ge 6, 3) := by decide +kernel
theorem dX6_toldTrouble_16 : decode cX6_toldTrouble 16 = .ok (.bipush (-4), 2) := by decide +kernel
theorem dX6_toldTrouble_18 : decode cX6_toldTrouble 18 = .ok (.ireturn, 1) := by decide +kernel
theorem dX6_toldTrouble_19 : decode cX6_toldTrouble 19 = .ok (.iload_n 2, 1) := by decide +kernel
theorem dX6_toldTrouble_20 : decode cX6_toldTrouble 20 = .ok (.aload_n 0, 1) := by decide +kernel
theorem dX6_toldTrouble_21 : decode cX6_toldTrouble 21 = .ok (.getfield 11, 3) := by decide +kernel
theorem dX6_toldTrouble_24 : decode cX6_toldTrouble 24 = .ok (.iload_n 1, 1) := by decide +kernel
theorem dX6_toldTrouble_25 : decode cX6_toldTrouble 25 = .ok (.aaload, 1) := by decide +kernel
theorem dX6_toldTrouble_26 : decode cX6_toldTrouble 26 = .ok (.getfield 62, 3) := by decide +kernel
theorem dX6_toldTrouble_29 : decode cX6_toldTrouble 29 = .ok (.if_icmp .le 8, 3) := by decide +kernel
theorem dX6_toldTrouble_32 : decode cX6_toldTrouble 32 = .ok (.bipush (-5), 2) := by decide +kernel
theorem dX6_toldTrouble_34 : decode cX6_toldTrouble 34 = .ok (.goto 4, 3) := by decide +kernel
theorem dX6_toldTrouble_37 : decode cX6_toldTrouble 37 = .ok (.iconst 0, 1) := by decide +kernel
theorem dX6_toldTrouble_38 : decode cX6_toldTrouble 38 = .ok (.ireturn, 1) := by decide +kernel
theorem dX6_foresee_0 : decode cX6_foresee 0 = .ok (.aload_n 0, 1) := by decide +kernel
theorem dX6_foresee_1 : decode cX6_foresee 1 = .ok (.getfield 26, 3) := by decide +kernel
theorem dX6_foresee_4 : decode cX6_foresee 4 = .ok (.aload_n 0, 1) := by decide +kernel
theorem dX6_foresee_5 : decode cX6_foresee 5 = .ok (.getfield 22, 3) := by decide +kernel
theorem dX6_foresee_8 : decode cX6_foresee 8 = .ok (.invokevirtual 192, 3) := by decide +kernel
theorem dX6_foresee_11 : decode cX6_foresee 11 = .ok (.aload_n 0, 1) := by decide +kernel
theorem dX6_foresee_12 : decode cX6_foresee 12 = .ok (.getfield 26, 3) := by decide +kernel
theorem dX6_foresee_15 : decode cX6_foresee 15 = .ok (.iload_n 1, 1) := by decide +kernel
theorem dX6_foresee_16 : decode cX6_foresee 16 = .ok (.iload_n 2, 1) := by decide +kernel
theorem dX6_foresee_17 : decode cX6_foresee 17 = .ok (.invokevirtual 222, 3) := by decide +kernel
theorem dX6_foresee_20 : decode cX6_foresee 20 = .ok (.aload_n 0, 1) := by decide +kernel
theorem dX6_foresee_21 : decode cX6_foresee 21 = .ok (.getfield 26, 3) := by decide +kernel
theorem dX6_foresee_24 : decode cX6_foresee 24 = .ok (.getfield 225, 3) := by decide +kernel
theorem dX6_foresee_27 : decode cX6_foresee 27 = .ok (.aload_n 0, 1) := by decide +kernel
theorem dX6_foresee_28 : decode cX6_foresee 28 = .ok (.getfield 22, 3) := by decide +kernel
theorem dX6_foresee_31 : decode cX6_foresee 31 = .ok (.getfield 225, 3) := by decide +kernel
theorem dX6_foresee_34 : decode cX6_foresee 34 = .ok (.isub, 1) := by decide +kernel
theorem dX6_foresee_35 : decode cX6_foresee 35 = .ok (.ireturn, 1) := by decide +kernel
theorem dX6_settledBehind_0 : decode cX6_settledBehind 0 = .ok (.aload_n 0, 1) := by decide +kernel
theorem dX6_settledBehind_1 : decode cX6_settledBehind 1 = .ok (.getfield 26, 3) := by decide +kernel
theorem dX6_settledBehind_4 : decode cX6_settledBehind 4 = .ok (.aload_n 0, 1) := by decide +kernel
theorem dX6_settledBehind_5 : decode cX6_settledBehind 5 = .ok (.getfield 22, 3) := by decide +kernel
theorem dX6_settledBehind_8 : decode cX6_settledBehind 8 = .ok (.invokevirtual 192, 3) := by decide +kernel
theorem dX6_settledBehind_11 : decode cX6_settledBehind 11 = .ok (.aload_n 0, 1) := by decide +kernel
theorem dX6_settledBehind_12 : decode cX6_settledBehind 12 = .ok (.getfield 26, 3) := by decide +kernel
theorem dX6_settledBehind_15 : decode cX6_settledBehind 15 = .ok (.invokevirtual 284, 3) := by decide +kernel
theorem dX6_settledBehind_18 : decode cX6_settledBehind 18 = .ok (.pop, 1) := by decide +kernel
theorem dX6_settledBehind_19 : decode cX6_settledBehind 19 = .ok (.iconst 0, 1) := by decide +kernel
theorem dX6_settledBehind_20 : decode cX6_settledBehind 20 = .ok (.istore_n 2, 1) := by decide +kernel
theorem dX6_settledBehind_21 : decode cX6_settledBehind 21 = .ok (.iconst 1, 1) := by decide +kernel
theorem dX6_settledBehind_22 : decode cX6_settledBehind 22 = .ok (.istore_n 3, 1) := by decide +kernel
theorem dX6_settledBehind_23 : decode cX6_settledBehind 23 = .ok (.iload_n 3, 1) := by decide +kernel
theorem dX6_settledBehind_24 : decode cX6_settledBehind 24 = .ok (.sipush 240, 3) := by decide +kernel
theorem dX6_settledBehind_27 : decode cX6_settledBehind 27 = .ok (.if_icmp .gt 30, 3) := by decide +kernel
theorem dX6_settledBehind_30 : decode cX6_settledBehind 30 = .ok (.aload_n 0, 1) := by decide +kernel
theorem dX6_settledBehind_31 : decode cX6_settledBehind 31 = .ok (.getfield 26, 3) := by decide +kernel
theorem dX6_settledBehind_34 : decode cX6_settledBehind 34 = .ok (.iload_n 1, 1) := by decide +kernel
theorem dX6_settledBehind_35 : decode cX6_settledBehind 35 = .ok (.iconst 1, 1) := by decide +kernel
theorem dX6_settledBehind_36 : decode cX6_settledBehind 36 = .ok (.invokevirtual 222, 3) := by decide +kernel
theorem dX6_settledBehind_39 : decode cX6_settledBehind 39 = .ok (.aload_n 0, 1) := by decide +kernel
theorem dX6_settledBehind_40 : decode cX6_settledBehind 40 = .ok (.getfield 26, 3) := by decide +kernel
theorem dX6_settledBehind_43 : decode cX6_settledBehind 43 = .ok (.invokevirtual 284, 3) := by decide +kernel
theorem dX6_settledBehind_46 : decode cX6_settledBehind 46 = .ok (.ifCond .eq 5, 3) := by decide +kernel
theorem dX6_settledBehind_49 : decode cX6_settledBehind 49 = .ok (.iload_n 3, 1) := by decide +kernel
theorem dX6_settledBehind_50 : decode cX6_settledBehind 50 = .ok (.istore_n 2, 1) := by decide +kernel
theorem dX6_settledBehind_51 : decode cX6_settledBehind 51 = .ok (.iinc 3 1, 3) := by decide +kernel
theorem dX6_settledBehind_54 : decode cX6_settledBehind 54 = .ok (.goto (-31), 3) := by decide +kernel
theorem dX6_settledBehind_57 : decode cX6_settledBehind 57 = .ok (.iload_n 2, 1) := by decide +kernel
theorem dX6_settledBehind_58 : decode cX6_settledBehind 58 = .ok (.ireturn, 1) := by decide +kernel
theorem dX6_stoppedFrom_0 : decode cX6_stoppedFrom 0 = .ok (.aload_n 0, 1) := by decide +kernel
theorem dX6_stoppedFrom_1 : decode cX6_stoppedFrom 1 = .ok (.getfield 26, 3) := by decide +kernel
theorem dX6_stoppedFrom_4 : decode cX6_stoppedFrom 4 = .ok (.aload_n 0, 1) := by decide +kernel
theorem dX6_stoppedFrom_5 : decode cX6_stoppedFrom 5 = .ok (.getfield 22, 3) := by decide +kernel
theorem dX6_stoppedFrom_8 : decode cX6_stoppedFrom 8 = .ok (.invokevirtual 192, 3) := by decide +kernel
theorem dX6_stoppedFrom_11 : decode cX6_stoppedFrom 11 = .ok (.iconst 0, 1) := by decide +kernel
theorem dX6_stoppedFrom_12 : decode cX6_stoppedFrom 12 = .ok (.istore_n 2, 1) := by decide +kernel
theorem dX6_stoppedFrom_13 : decode cX6_stoppedFrom 13 = .ok (.iconst 0, 1) := by decide +kernel
theorem dX6_stoppedFrom_14 : decode cX6_stoppedFrom 14 = .ok (.istore_n 3, 1) := by decide +kernel
theorem dX6_stoppedFrom_15 : decode cX6_stoppedFrom 15 = .ok (.iload_n 3, 1) := by decide +kernel
theorem dX6_stoppedFrom_16 : decode cX6_stoppedFrom 16 = .ok (.sipush 240, 3) := by decide +kernel
theorem dX6_stoppedFrom_19 : decode cX6_stoppedFrom 19 = .ok (.if_icmp .ge 43, 3) := by decide +kernel
theorem dX6_stoppedFrom_22 : decode cX6_stoppedFrom 22 = .ok (.aload_n 0, 1) := by decide +kernel
theorem dX6_stoppedFrom_23 : decode cX6_stoppedFrom 23 = .ok (.getfield 26, 3) := by decide +kernel
theorem dX6_stoppedFrom_26 : decode cX6_stoppedFrom 26 = .ok (.getfield 225, 3) := by decide +kernel
theorem dX6_stoppedFrom_29 : decode cX6_stoppedFrom 29 = .ok (.istore 4, 2) := by decide +kernel
theorem dX6_stoppedFrom_31 : decode cX6_stoppedFrom 31 = .ok (.aload_n 0, 1) := by decide +kernel
theorem dX6_stoppedFrom_32 : decode cX6_stoppedFrom 32 = .ok (.getfield 26, 3) := by decide +kernel
theorem dX6_stoppedFrom_35 : decode cX6_stoppedFrom 35 = .ok (.iload_n 1, 1) := by decide +kernel
theorem dX6_stoppedFrom_36 : decode cX6_stoppedFrom 36 = .ok (.iconst 1, 1) := by decide +kernel
theorem dX6_stoppedFrom_37 : decode cX6_stoppedFrom 37 = .ok (.invokevirtual 222, 3) := by decide +kernel
theorem dX6_stoppedFrom_40 : decode cX6_stoppedFrom 40 = .ok (.aload_n 0, 1) := by decide +kernel
theorem dX6_stoppedFrom_41 : decode cX6_stoppedFrom 41 = .ok (.getfield 26, 3) := by decide +kernel
theorem dX6_stoppedFrom_44 : decode cX6_stoppedFrom 44 = .ok (.getfield 225, 3) := by decide +kernel
theorem dX6_stoppedFrom_47 : decode cX6_stoppedFrom 47 = .ok (.iload 4, 2) := by decide +kernel
theorem dX6_stoppedFrom_49 : decode cX6_stoppedFrom 49 = .ok (.if_icmp .eq 7, 3) := by decide +kernel
theorem dX6_stoppedFrom_52 : decode cX6_stoppedFrom 52 = .ok (.iload_n 3, 1) := by decide +kernel
theorem dX6_stoppedFrom_53 : decode cX6_stoppedFrom 53 = .ok (.iconst 1, 1) := by decide +kernel
theorem dX6_stoppedFrom_54 : decode cX6_stoppedFrom 54 = .ok (.iadd, 1) := by decide +kernel
theorem dX6_stoppedFrom_55 : decode cX6_stoppedFrom 55 = .ok (.istore_n 2, 1) := by decide +kernel
theorem dX6_stoppedFrom_56 : decode cX6_stoppedFrom 56 = .ok (.iinc 3 1, 3) := by decide +kernel
theorem dX6_stoppedFrom_59 : decode cX6_stoppedFrom 59 = .ok (.goto (-44), 3) := by decide +kernel
theorem dX6_stoppedFrom_62 : decode cX6_stoppedFrom 62 = .ok (.iload_n 2, 1) := by decide +kernel
theorem dX6_stoppedFrom_63 : decode cX6_stoppedFrom 63 = .ok (.sipush 240, 3) := by decide +kernel
theorem dX6_stoppedFrom_66 : decode cX6_stoppedFrom 66 = .ok (.if_icmp .ge 7, 3) := by decide +kernel
theorem dX6_stoppedFrom_69 : decode cX6_stoppedFrom 69 = .ok (.iload_n 2, 1) := by decide +kernel
theorem dX6_stoppedFrom_70 : decode cX6_stoppedFrom 70 = .ok (.goto 4, 3) := by decide +kernel
theorem dX6_stoppedFrom_73 : decode cX6_stoppedFrom 73 = .ok (.iconst (-1), 1) := by decide +kernel
theorem dX6_stoppedFrom_74 : decode cX6_stoppedFrom 74 = .ok (.ireturn, 1) := by decide +kernel
theorem dX6_bestWay_0 : decode cX6_bestWay 0 = .ok (.iconst 1, 1) := by decide +kernel
theorem dX6_bestWay_1 : decode cX6_bestWay 1 = .ok (.istore_n 2, 1) := by decide +kernel
theorem dX6_bestWay_2 : decode cX6_bestWay 2 = .ok (.iconst 0, 1) := by decide +kernel
theorem dX6_bestWay_3 : decode cX6_bestWay 3 = .ok (.istore_n 3, 1) := by decide +kernel
theorem dX6_bestWay_4 : decode cX6_bestWay 4 = .ok (.iload_n 3, 1) := by decide +kernel
theorem dX6_bestWay_5 : decode cX6_bestWay 5 = .ok (.iload_n 1, 1) := by decide +kernel
theorem dX6_bestWay_6 : decode cX6_bestWay 6 = .ok (.if_icmp .ge 19, 3) := by decide +kernel
theorem dX6_bestWay_9 : decode cX6_bestWay 9 = .ok (.iload_n 2, 1) := by decide +kernel
theorem dX6_bestWay_10 : decode cX6_bestWay 10 = .ok (.aload_n 0, 1) := by decide +kernel
theorem dX6_bestWay_11 : decode cX6_bestWay 11 = .ok (.getfield 22, 3) := by decide +kernel
theorem dX6_bestWay_14 : decode cX6_bestWay 14 = .ok (.getfield 123, 3) := by decide +kernel
theorem dX6_bestWay_17 : decode cX6_bestWay 17 = .ok (.imul, 1) := by decide +kernel
theorem dX6_bestWay_18 : decode cX6_bestWay 18 = .ok (.istore_n 2, 1) := by decide +kernel
theorem dX6_bestWay_19 : decode cX6_bestWay 19 = .ok (.iinc 3 1, 3) := by decide +kernel
theorem dX6_bestWay_22 : decode cX6_bestWay 22 = .ok (.goto (-18), 3) := by decide +kernel
theorem dX6_bestWay_25 : decode cX6_bestWay 25 = .ok (.iconst 0, 1) := by decide +kernel
theorem dX6_bestWay_26 : decode cX6_bestWay 26 = .ok (.istore_n 3, 1) := by decide +kernel
theorem dX6_bestWay_27 : decode cX6_bestWay 27 = .ok (.iconst (-1), 1) := by decide +kernel
theorem dX6_bestWay_28 : decode cX6_bestWay 28 = .ok (.istore 4, 2) := by decide +kernel
theorem dX6_bestWay_30 : decode cX6_bestWay 30 = .ok (.iconst 0, 1) := by decide +kernel
theorem dX6_bestWay_31 : decode cX6_bestWay 31 = .ok (.istore 5, 2) := by decide +kernel
theorem dX6_bestWay_33 : decode cX6_bestWay 33 = .ok (.iload 5, 2) := by decide +kernel
theorem dX6_bestWay_35 : decode cX6_bestWay 35 = .ok (.iload_n 2, 1) := by decide +kernel
theorem dX6_bestWay_36 : decode cX6_bestWay 36 = .ok (.if_icmp .ge 32, 3) := by decide +kernel
theorem dX6_bestWay_39 : decode cX6_bestWay 39 = .ok (.aload_n 0, 1) := by decide +kernel
theorem dX6_bestWay_40 : decode cX6_bestWay 40 = .ok (.iload 5, 2) := by decide +kernel
theorem dX6_bestWay_42 : decode cX6_bestWay 42 = .ok (.iload_n 1, 1) := by decide +kernel
theorem dX6_bestWay_43 : decode cX6_bestWay 43 = .ok (.invokevirtual 231, 3) := by decide +kernel
theorem dX6_bestWay_46 : decode cX6_bestWay 46 = .ok (.istore 6, 2) := by decide +kernel
theorem dX6_bestWay_48 : decode cX6_bestWay 48 = .ok (.iload 6, 2) := by decide +kernel
theorem dX6_bestWay_50 : decode cX6_bestWay 50 = .ok (.iload 4, 2) := by decide +kernel
theorem dX6_bestWay_52 : decode cX6_bestWay 52 = .ok (.if_icmp .le 10, 3) := by decide +kernel
theorem dX6_bestWay_55 : decode cX6_bestWay 55 = .ok (.iload 6, 2) := by decide +kernel
theorem dX6_bestWay_57 : decode cX6_bestWay 57 = .ok (.istore 4, 2) := by decide +kernel
theorem dX6_bestWay_59 : decode cX6_bestWay 59 = .ok (.iload 5, 2) := by decide +kernel
theorem dX6_bestWay_61 : decode cX6_bestWay 61 = .ok (.istore_n 3, 1) := by decide +kernel
theorem dX6_bestWay_62 : decode cX6_bestWay 62 = .ok (.iinc 5 1, 3) := by decide +kernel
theorem dX6_bestWay_65 : decode cX6_bestWay 65 = .ok (.goto (-32), 3) := by decide +kernel
theorem dX6_bestWay_68 : decode cX6_bestWay 68 = .ok (.iload_n 3, 1) := by decide +kernel
theorem dX6_bestWay_69 : decode cX6_bestWay 69 = .ok (.ireturn, 1) := by decide +kernel
theorem dX6_dealsOfWay_0 : decode cX6_dealsOfWay 0 = .ok (.aload_n 0, 1) := by decide +kernel
theorem dX6_dealsOfWay_1 : decode cX6_dealsOfWay 1 = .ok (.getfield 26, 3) := by decide +kernel
theorem dX6_dealsOfWay_4 : decode cX6_dealsOfWay 4 = .ok (.aload_n 0, 1) := by decide +kernel
theorem dX6_dealsOfWay_5 : decode cX6_dealsOfWay 5 = .ok (.getfield 22, 3) := by decide +kernel
theorem dX6_dealsOfWay_8 : decode cX6_dealsOfWay 8 = .ok (.invokevirtual 192, 3) := by decide +kernel
theorem dX6_dealsOfWay_11 : decode cX6_dealsOfWay 11 = .ok (.iconst 0, 1) := by decide +kernel
theorem dX6_dealsOfWay_12 : decode cX6_dealsOfWay 12 = .ok (.istore_n 3, 1) := by decide +kernel
theorem dX6_dealsOfWay_13 : decode cX6_dealsOfWay 13 = .ok (.iload_n 3, 1) := by decide +kernel
theorem dX6_dealsOfWay_14 : decode cX6_dealsOfWay 14 = .ok (.aload_n 0, 1) := by decide +kernel
theorem dX6_dealsOfWay_15 : decode cX6_dealsOfWay 15 = .ok (.getfield 26, 3) := by decide +kernel
theorem dX6_dealsOfWay_18 : decode cX6_dealsOfWay 18 = .ok (.getfield 123, 3) := by decide +kernel
theorem dX6_dealsOfWay_21 : decode cX6_dealsOfWay 21 = .ok (.if_icmp .ge 22, 3) := by decide +kernel
theorem dX6_dealsOfWay_24 : decode cX6_dealsOfWay 24 = .ok (.aload_n 0, 1) := by decide +kernel
theorem dX6_dealsOfWay_25 : decode cX6_dealsOfWay 25 = .ok (.getfield 26, 3) := by decide +kernel
theorem dX6_dealsOfWay_28 : decode cX6_dealsOfWay 28 = .ok (.getfield 152, 3) := by decide +kernel
theorem dX6_dealsOfWay_31 : decode cX6_dealsOfWay 31 = .ok (.iload_n 3, 1) := by decide +kernel
theorem dX6_dealsOfWay_32 : decode cX6_dealsOfWay 32 = .ok (.aaload, 1) := by decide +kernel
theorem dX6_dealsOfWay_33 : decode cX6_dealsOfWay 33 = .ok (.iconst (-1), 1) := by decide +kernel
theorem dX6_dealsOfWay_34 : decode cX6_dealsOfWay 34 = .ok (.putfield 173, 3) := by decide +kernel
theorem dX6_dealsOfWay_37 : decode cX6_dealsOfWay 37 = .ok (.iinc 3 1, 3) := by decide +kernel
theorem dX6_dealsOfWay_40 : decode cX6_dealsOfWay 40 = .ok (.goto (-27), 3) := by decide +kernel
theorem dX6_dealsOfWay_43 : decode cX6_dealsOfWay 43 = .ok (.iconst 0, 1) := by decide +kernel
theorem dX6_dealsOfWay_44 : decode cX6_dealsOfWay 44 = .ok (.istore_n 3, 1) := by decide +kernel
theorem dX6_dealsOfWay_45 : decode cX6_dealsOfWay 45 = .ok (.iload_n 3, 1) := by decide +kernel
theorem dX6_dealsOfWay_46 : decode cX6_dealsOfWay 46 = .ok (.iload_n 2, 1) := by decide +kernel
theorem dX6_dealsOfWay_47 : decode cX6_dealsOfWay 47 = .ok (.if_icmp .ge 43, 3) := by decide +kernel
theorem dX6_dealsOfWay_50 : decode cX6_dealsOfWay 50 = .ok (.aload_n 0, 1) := by decide +kernel
theorem dX6_dealsOfWay_51 : decode cX6_dealsOfWay 51 = .ok (.getfield 26, 3) := by decide +kernel
theorem dX6_dealsOfWay_54 : decode cX6_dealsOfWay 54 = .ok (.getfield 152, 3) := by decide +kernel
theorem dX6_dealsOfWay_57 : decode cX6_dealsOfWay 57 = .ok (.aload_n 0, 1) := by decide +kernel
theorem dX6_dealsOfWay_58 : decode cX6_dealsOfWay 58 = .ok (.iload_n 1, 1) := by decide +kernel
theorem dX6_dealsOfWay_59 : decode cX6_dealsOfWay 59 = .ok (.iload_n 2, 1) := by decide +kernel
theorem dX6_dealsOfWay_60 : decode cX6_dealsOfWay 60 = .ok (.iload_n 3, 1) := by decide +kernel
theorem dX6_dealsOfWay_61 : decode cX6_dealsOfWay 61 = .ok (.invokevirtual 234, 3) := by decide +kernel
theorem dX6_dealsOfWay_64 : decode cX6_dealsOfWay 64 = .ok (.aaload, 1) := by decide +kernel
theorem dX6_dealsOfWay_65 : decode cX6_dealsOfWay 65 = .ok (.astore 4, 2) := by decide +kernel
theorem dX6_dealsOfWay_67 : decode cX6_dealsOfWay 67 = .ok (.aload 4, 2) := by decide +kernel
theorem dX6_dealsOfWay_69 : decode cX6_dealsOfWay 69 = .ok (.getfield 173, 3) := by decide +kernel
theorem dX6_dealsOfWay_72 : decode cX6_dealsOfWay 72 = .ok (.iconst (-1), 1) := by decide +kernel
theorem dX6_dealsOfWay_73 : decode cX6_dealsOfWay 73 = .ok (.if_icmp .eq 5, 3) := by decide +kernel
theorem dX6_dealsOfWay_76 : decode cX6_dealsOfWay 76 = .ok (.iconst (-1), 1) := by decide +kernel
theorem dX6_dealsOfWay_77 : decode cX6_dealsOfWay 77 = .ok (.ireturn, 1) := by decide +kernel
theorem dX6_dealsOfWay_78 : decode cX6_dealsOfWay 78 = .ok (.aload 4, 2) := by decide +kernel
theorem dX6_dealsOfWay_80 : decode cX6_dealsOfWay 80 = .ok (.iload_n 3, 1) := by decide +kernel
theorem dX6_dealsOfWay_81 : decode cX6_dealsOfWay 81 = .ok (.putfield 173, 3) := by decide +kernel
theorem dX6_dealsOfWay_84 : decode cX6_dealsOfWay 84 = .ok (.iinc 3 1, 3) := by decide +kernel
theorem dX6_dealsOfWay_87 : decode cX6_dealsOfWay 87 = .ok (.goto (-42), 3) := by decide +kernel
theorem dX6_dealsOfWay_90 : decode cX6_dealsOfWay 90 = .ok (.aload_n 0, 1) := by decide +kernel
theorem dX6_dealsOfWay_91 : decode cX6_dealsOfWay 91 = .ok (.getfield 26, 3) := by decide +kernel
theorem dX6_dealsOfWay_94 : decode cX6_dealsOfWay 94 = .ok (.iconst 0, 1) := by decide +kernel
theorem dX6_dealsOfWay_95 : decode cX6_dealsOfWay 95 = .ok (.bipush 30, 2) := by decide +kernel
theorem dX6_dealsOfWay_97 : decode cX6_dealsOfWay 97 = .ok (.invokevirtual 222, 3) := by decide +kernel
theorem dX6_dealsOfWay_100 : decode cX6_dealsOfWay 100 = .ok (.aload_n 0, 1) := by decide +kernel
theorem dX6_dealsOfWay_101 : decode cX6_dealsOfWay 101 = .ok (.getfield 26, 3) := by decide +kernel
theorem dX6_dealsOfWay_104 : decode cX6_dealsOfWay 104 = .ok (.getfield 225, 3) := by decide +kernel
theorem dX6_dealsOfWay_107 : decode cX6_dealsOfWay 107 = .ok (.aload_n 0, 1) := by decide +kernel
theorem dX6_dealsOfWay_108 : decode cX6_dealsOfWay 108 = .ok (.getfield 22, 3) := by decide +kernel
theorem dX6_dealsOfWay_111 : decode cX6_dealsOfWay 111 = .ok (.getfield 225, 3) := by decide +kernel
theorem dX6_dealsOfWay_114 : decode cX6_dealsOfWay 114 = .ok (.isub, 1) := by decide +kernel
theorem dX6_dealsOfWay_115 : decode cX6_dealsOfWay 115 = .ok (.ireturn, 1) := by decide +kernel
theorem dX6_keeperIn_0 : decode cX6_keeperIn 0 = .ok (.aload_n 0, 1) := by decide +kernel
theorem dX6_keeperIn_1 : decode cX6_keeperIn 1 = .ok (.getfield 22, 3) := by decide +kernel
theorem dX6_keeperIn_4 : decode cX6_keeperIn 4 = .ok (.getfield 123, 3) := by decide +kernel
theorem dX6_keeperIn_7 : decode cX6_keeperIn 7 = .ok (.istore 4, 2) := by decide +kernel
theorem dX6_keeperIn_9 : decode cX6_keeperIn 9 = .ok (.iload_n 1, 1) := by decide +kernel
theorem dX6_keeperIn_10 : decode cX6_keeperIn 10 = .ok (.ifCond .lt 9, 3) := by decide +kernel
theorem dX6_keeperIn_13 : decode cX6_keeperIn 13 = .ok (.iload 4, 2) := by decide +kernel
theorem dX6_keeperIn_15 : decode cX6_keeperIn 15 = .ok (.iconst 1, 1) := by decide +kernel
theorem dX6_keeperIn_16 : decode cX6_keeperIn 16 = .ok (.if_icmp .ge 5, 3) := by decide +kernel
theorem dX6_keeperIn_19 : decode cX6_keeperIn 19 = .ok (.iconst 0, 1) := by decide +kernel
theorem dX6_keeperIn_20 : decode cX6_keeperIn 20 = .ok (.ireturn, 1) := by decide +kernel
theorem dX6_keeperIn_21 : decode cX6_keeperIn 21 = .ok (.iload_n 1, 1) := by decide +kernel
theorem dX6_keeperIn_22 : decode cX6_keeperIn 22 = .ok (.istore 5, 2) := by decide +kernel
theorem dX6_keeperIn_24 : decode cX6_keeperIn 24 = .ok (.iload_n 2, 1) := by decide +kernel
theorem dX6_keeperIn_25 : decode cX6_keeperIn 25 = .ok (.iconst 1, 1) := by decide +kernel
theorem dX6_keeperIn_26 : decode cX6_keeperIn 26 = .ok (.isub, 1) := by decide +kernel
theorem dX6_keeperIn_27 : decode cX6_keeperIn 27 = .ok (.istore 6, 2) := by decide +kernel
theorem dX6_keeperIn_29 : decode cX6_keeperIn 29 = .ok (.iload 6, 2) := by decide +kernel
theorem dX6_keeperIn_31 : decode cX6_keeperIn 31 = .ok (.iload_n 3, 1) := by decide +kernel
theorem dX6_keeperIn_32 : decode cX6_keeperIn 32 = .ok (.if_icmp .le 16, 3) := by decide +kernel
theorem dX6_keeperIn_35 : decode cX6_keeperIn 35 = .ok (.iload 5, 2) := by decide +kernel
theorem dX6_keeperIn_37 : decode cX6_keeperIn 37 = .ok (.iload 4, 2) := by decide +kernel
theorem dX6_keeperIn_39 : decode cX6_keeperIn 39 = .ok (.idiv, 1) := by decide +kernel
theorem dX6_keeperIn_40 : decode cX6_keeperIn 40 = .ok (.istore 5, 2) := by decide +kernel
theorem dX6_keeperIn_42 : decode cX6_keeperIn 42 = .ok (.iinc 6 (-1), 3) := by decide +kernel
theorem dX6_keeperIn_45 : decode cX6_keeperIn 45 = .ok (.goto (-16), 3) := by decide +kernel
theorem dX6_keeperIn_48 : decode cX6_keeperIn 48 = .ok (.iload 5, 2) := by decide +kernel
theorem dX6_keeperIn_50 : decode cX6_keeperIn 50 = .ok (.iload 4, 2) := by decide +kernel
theorem dX6_keeperIn_52 : decode cX6_keeperIn 52 = .ok (.irem, 1) := by decide +kernel
theorem dX6_keeperIn_53 : decode cX6_keeperIn 53 = .ok (.ireturn, 1) := by decide +kernel
theorem dX6_wrongDeed_0 : decode cX6_wrongDeed 0 = .ok (.aload_n 0, 1) := by decide +kernel
theorem dX6_wrongDeed_1 : decode cX6_wrongDeed 1 = .ok (.getfield 26, 3) := by decide +kernel
theorem dX6_wrongDeed_4 : decode cX6_wrongDeed 4 = .ok (.aload_n 0, 1) := by decide +kernel
theorem dX6_wrongDeed_5 : decode cX6_wrongDeed 5 = .ok (.getfield 22, 3) := by decide +kernel
theorem dX6_wrongDeed_8 : decode cX6_wrongDeed 8 = .ok (.invokevirtual 192, 3) := by decide +kernel
theorem dX6_wrongDeed_11 : decode cX6_wrongDeed 11 = .ok (.aload_n 0, 1) := by decide +kernel
theorem dX6_wrongDeed_12 : decode cX6_wrongDeed 12 = .ok (.getfield 26, 3) := by decide +kernel
theorem dX6_wrongDeed_15 : decode cX6_wrongDeed 15 = .ok (.getfield 123, 3) := by decide +kernel
theorem dX6_wrongDeed_18 : decode cX6_wrongDeed 18 = .ok (.istore_n 3, 1) := by decide +kernel
theorem dX6_wrongDeed_19 : decode cX6_wrongDeed 19 = .ok (.iload_n 3, 1) := by decide +kernel
theorem dX6_wrongDeed_20 : decode cX6_wrongDeed 20 = .ok (.iconst 1, 1) := by decide +kernel
theorem dX6_wrongDeed_21 : decode cX6_wrongDeed 21 = .ok (.if_icmp .ge 5, 3) := by decide +kernel
theorem dX6_wrongDeed_24 : decode cX6_wrongDeed 24 = .ok (.iconst (-1), 1) := by decide +kernel
theorem dX6_wrongDeed_25 : decode cX6_wrongDeed 25 = .ok (.ireturn, 1) := by decide +kernel
theorem dX6_wrongDeed_26 : decode cX6_wrongDeed 26 = .ok (.iconst 0, 1) := by decide +kernel
theorem dX6_wrongDeed_27 : decode cX6_wrongDeed 27 = .ok (.istore 4, 2) := by decide +kernel
theorem dX6_wrongDeed_29 : decode cX6_wrongDeed 29 = .ok (.iload_n 2, 1) := by decide +kernel
theorem dX6_wrongDeed_30 : decode cX6_wrongDeed 30 = .ok (.iload_n 3, 1) := by decide +kernel
theorem dX6_wrongDeed_31 : decode cX6_wrongDeed 31 = .ok (.idiv, 1) := by decide +kernel
theorem dX6_wrongDeed_32 : decode cX6_wrongDeed 32 = .ok (.istore 5, 2) := by decide +kernel
theorem dX6_wrongDeed_34 : decode cX6_wrongDeed 34 = .ok (.iload 5, 2) := by decide +kernel
theorem dX6_wrongDeed_36 : decode cX6_wrongDeed 36 = .ok (.ifCond .le 82, 3) := by decide +kernel
theorem dX6_wrongDeed_39 : decode cX6_wrongDeed 39 = .ok (.aload_n 0, 1) := by decide +kernel
theorem dX6_wrongDeed_40 : decode cX6_wrongDeed 40 = .ok (.getfield 26, 3) := by decide +kernel
theorem dX6_wrongDeed_43 : decode cX6_wrongDeed 43 = .ok (.invokevirtual 287, 3) := by decide +kernel
theorem dX6_wrongDeed_46 : decode cX6_wrongDeed 46 = .ok (.iconst 0, 1) := by decide +kernel
theorem dX6_wrongDeed_47 : decode cX6_wrongDeed 47 = .ok (.istore 6, 2) := by decide +kernel
theorem dX6_wrongDeed_49 : decode cX6_wrongDeed 49 = .ok (.iload 6, 2) := by decide +kernel
theorem dX6_wrongDeed_51 : decode cX6_wrongDeed 51 = .ok (.iload_n 3, 1) := by decide +kernel
theorem dX6_wrongDeed_52 : decode cX6_wrongDeed 52 = .ok (.if_icmp .ge 53, 3) := by decide +kernel
theorem dX6_wrongDeed_55 : decode cX6_wrongDeed 55 = .ok (.aload_n 0, 1) := by decide +kernel
theorem dX6_wrongDeed_56 : decode cX6_wrongDeed 56 = .ok (.getfield 11, 3) := by decide +kernel
theorem dX6_wrongDeed_59 : decode cX6_wrongDeed 59 = .ok (.iload_n 1, 1) := by decide +kernel
theorem dX6_wrongDeed_60 : decode cX6_wrongDeed 60 = .ok (.aaload, 1) := by decide +kernel
theorem dX6_wrongDeed_61 : decode cX6_wrongDeed 61 = .ok (.iload 4, 2) := by decide +kernel
theorem dX6_wrongDeed_63 : decode cX6_wrongDeed 63 = .ok (.invokevirtual 290, 3) := by decide +kernel
theorem dX6_wrongDeed_66 : decode cX6_wrongDeed 66 = .ok (.istore 7, 2) := by decide +kernel
theorem dX6_wrongDeed_68 : decode cX6_wrongDeed 68 = .ok (.aload_n 0, 1) := by decide +kernel
theorem dX6_wrongDeed_69 : decode cX6_wrongDeed 69 = .ok (.getfield 26, 3) := by decide +kernel
theorem dX6_wrongDeed_72 : decode cX6_wrongDeed 72 = .ok (.iload 6, 2) := by decide +kernel
theorem dX6_wrongDeed_74 : decode cX6_wrongDeed 74 = .ok (.iload 7, 2) := by decide +kernel
theorem dX6_wrongDeed_76 : decode cX6_wrongDeed 76 = .ok (.invokevirtual 196, 3) := by decide +kernel
theorem dX6_wrongDeed_79 : decode cX6_wrongDeed 79 = .ok (.ifCond .ne 6, 3) := by decide +kernel
theorem dX6_wrongDeed_82 : decode cX6_wrongDeed 82 = .ok (.iload 4, 2) := by decide +kernel
theorem dX6_wrongDeed_84 : decode cX6_wrongDeed 84 = .ok (.ireturn, 1) := by decide +kernel
theorem dX6_wrongDeed_85 : decode cX6_wrongDeed 85 = .ok (.aload_n 0, 1) := by decide +kernel
theorem dX6_wrongDeed_86 : decode cX6_wrongDeed 86 = .ok (.getfield 26, 3) := by decide +kernel
theorem dX6_wrongDeed_89 : decode cX6_wrongDeed 89 = .ok (.iload 6, 2) := by decide +kernel
theorem dX6_wrongDeed_91 : decode cX6_wrongDeed 91 = .ok (.iload 7, 2) := by decide +kernel
theorem dX6_wrongDeed_93 : decode cX6_wrongDeed 93 = .ok (.invokevirtual 245, 3) := by decide +kernel
theorem dX6_wrongDeed_96 : decode cX6_wrongDeed 96 = .ok (.iinc 4 1, 3) := by decide +kernel
theorem dX6_wrongDeed_99 : decode cX6_wrongDeed 99 = .ok (.iinc 6 1, 3) := by decide +kernel
theorem dX6_wrongDeed_102 : decode cX6_wrongDeed 102 = .ok (.goto (-53), 3) := by decide +kernel
theorem dX6_wrongDeed_105 : decode cX6_wrongDeed 105 = .ok (.aload_n 0, 1) := by decide +kernel
theorem dX6_wrongDeed_106 : decode cX6_wrongDeed 106 = .ok (.getfield 26, 3) := by decide +kernel
theorem dX6_wrongDeed_109 : decode cX6_wrongDeed 109 = .ok (.invokevirtual 293, 3) := by decide +kernel
theorem dX6_wrongDeed_112 : decode cX6_wrongDeed 112 = .ok (.iinc 5 (-1), 3) := by decide +kernel
theorem dX6_wrongDeed_115 : decode cX6_wrongDeed 115 = .ok (.goto (-81), 3) := by decide +kernel
theorem dX6_wrongDeed_118 : decode cX6_wrongDeed 118 = .ok (.iconst (-1), 1) := by decide +kernel
theorem dX6_wrongDeed_119 : decode cX6_wrongDeed 119 = .ok (.ireturn, 1) := by decide +kernel
theorem dX6_runBody_0 : decode cX6_runBody 0 = .ok (.iload 4, 2) := by decide +kernel
theorem dX6_runBody_2 : decode cX6_runBody 2 = .ok (.bipush 12, 2) := by decide +kernel
theorem dX6_runBody_4 : decode cX6_runBody 4 = .ok (.if_icmp .gt 12, 3) := by decide +kernel
theorem dX6_runBody_7 : decode cX6_runBody 7 = .ok (.iload_n 2, 1) := by decide +kernel
theorem dX6_runBody_8 : decode cX6_runBody 8 = .ok (.ifCond .lt 8, 3) := by decide +kernel
theorem dX6_runBody_11 : decode cX6_runBody 11 = .ok (.iload_n 2, 1) := by decide +kernel
theorem dX6_runBody_12 : decode cX6_runBody 12 = .ok (.iconst 3, 1) := by decide +kernel
theorem dX6_runBody_13 : decode cX6_runBody 13 = .ok (.if_icmp .lt 5, 3) := by decide +kernel
theorem dX6_runBody_16 : decode cX6_runBody 16 = .ok (.iconst 0, 1) := by decide +kernel
theorem dX6_runBody_17 : decode cX6_runBody 17 = .ok (.ireturn, 1) := by decide +kernel
theorem dX6_runBody_18 : decode cX6_runBody 18 = .ok (.iload_n 1, 1) := by decide +kernel
theorem dX6_runBody_19 : decode cX6_runBody 19 = .ok (.istore 5, 2) := by decide +kernel
theorem dX6_runBody_21 : decode cX6_runBody 21 = .ok (.iconst 0, 1) := by decide +kernel
theorem dX6_runBody_22 : decode cX6_runBody 22 = .ok (.istore 6, 2) := by decide +kernel
theorem dX6_runBody_24 : decode cX6_runBody 24 = .ok (.iload 6, 2) := by decide +kernel
theorem dX6_runBody_26 : decode cX6_runBody 26 = .ok (.bipush 7, 2) := by decide +kernel
theorem dX6_runBody_28 : decode cX6_runBody 28 = .ok (.if_icmp .ge 38, 3) := by decide +kernel
theorem dX6_runBody_31 : decode cX6_runBody 31 = .ok (.iload 5, 2) := by decide +kernel
theorem dX6_runBody_33 : decode cX6_runBody 33 = .ok (.invokestatic 101, 3) := by decide +kernel
theorem dX6_runBody_36 : decode cX6_runBody 36 = .ok (.ifCond .eq 30, 3) := by decide +kernel
theorem dX6_runBody_39 : decode cX6_runBody 39 = .ok (.getstatic 296, 3) := by decide +kernel
theorem dX6_runBody_42 : decode cX6_runBody 42 = .ok (.iload 5, 2) := by decide +kernel
theorem dX6_runBody_44 : decode cX6_runBody 44 = .ok (.iconst 3, 1) := by decide +kernel
theorem dX6_runBody_45 : decode cX6_runBody 45 = .ok (.imul, 1) := by decide +kernel
theorem dX6_runBody_46 : decode cX6_runBody 46 = .ok (.iload_n 2, 1) := by decide +kernel
theorem dX6_runBody_47 : decode cX6_runBody 47 = .ok (.iadd, 1) := by decide +kernel
theorem dX6_runBody_48 : decode cX6_runBody 48 = .ok (.iaload, 1) := by decide +kernel
theorem dX6_runBody_49 : decode cX6_runBody 49 = .ok (.ifCond .ne 17, 3) := by decide +kernel
theorem dX6_runBody_52 : decode cX6_runBody 52 = .ok (.getstatic 299, 3) := by decide +kernel
theorem dX6_runBody_55 : decode cX6_runBody 55 = .ok (.iload 5, 2) := by decide +kernel
theorem dX6_runBody_57 : decode cX6_runBody 57 = .ok (.iaload, 1) := by decide +kernel
theorem dX6_runBody_58 : decode cX6_runBody 58 = .ok (.istore 5, 2) := by decide +kernel
theorem dX6_runBody_60 : decode cX6_runBody 60 = .ok (.iinc 6 1, 3) := by decide +kernel
theorem dX6_runBody_63 : decode cX6_runBody 63 = .ok (.goto (-39), 3) := by decide +kernel
theorem dX6_runBody_66 : decode cX6_runBody 66 = .ok (.iload 5, 2) := by decide +kernel
theorem dX6_runBody_68 : decode cX6_runBody 68 = .ok (.invokestatic 101, 3) := by decide +kernel
theorem dX6_runBody_71 : decode cX6_runBody 71 = .ok (.ifCond .ne 5, 3) := by decide +kernel
theorem dX6_runBody_74 : decode cX6_runBody 74 = .ok (.iconst 0, 1) := by decide +kernel
theorem dX6_runBody_75 : decode cX6_runBody 75 = .ok (.ireturn, 1) := by decide +kernel
theorem dX6_runBody_76 : decode cX6_runBody 76 = .ok (.getstatic 296, 3) := by decide +kernel
theorem dX6_runBody_79 : decode cX6_runBody 79 = .ok (.iload 5, 2) := by decide +kernel
theorem dX6_runBody_81 : decode cX6_runBody 81 = .ok (.iconst 3, 1) := by decide +kernel
theorem dX6_runBody_82 : decode cX6_runBody 82 = .ok (.imul, 1) := by decide +kernel
theorem dX6_runBody_83 : decode cX6_runBody 83 = .ok (.iload_n 2, 1) := by decide +kernel
theorem dX6_runBody_84 : decode cX6_runBody 84 = .ok (.iadd, 1) := by decide +kernel
theorem dX6_runBody_85 : decode cX6_runBody 85 = .ok (.iaload, 1) := by decide +kernel
theorem dX6_runBody_86 : decode cX6_runBody 86 = .ok (.istore 6, 2) := by decide +kernel
theorem dX6_runBody_88 : decode cX6_runBody 88 = .ok (.aload_n 0, 1) := by decide +kernel
theorem dX6_runBody_89 : decode cX6_runBody 89 = .ok (.iload 6, 2) := by decide +kernel
theorem dX6_runBody_91 : decode cX6_runBody 91 = .ok (.invokevirtual 302, 3) := by decide +kernel
theorem dX6_runBody_94 : decode cX6_runBody 94 = .ok (.iload 4, 2) := by decide +kernel
theorem dX6_runBody_96 : decode cX6_runBody 96 = .ok (.iconst 1, 1) := by decide +kernel
theorem dX6_runBody_97 : decode cX6_runBody 97 = .ok (.iadd, 1) := by decide +kernel
theorem dX6_runBody_98 : decode cX6_runBody 98 = .ok (.istore 7, 2) := by decide +kernel
theorem dX6_runBody_100 : decode cX6_runBody 100 = .ok (.getstatic 299, 3) := by decide +kernel
theorem dX6_runBody_103 : decode cX6_runBody 103 = .ok (.iload 5, 2) := by decide +kernel
theorem dX6_runBody_105 : decode cX6_runBody 105 = .ok (.iaload, 1) := by decide +kernel
theorem dX6_runBody_106 : decode cX6_runBody 106 = .ok (.istore 8, 2) := by decide +kernel
theorem dX6_runBody_108 : decode cX6_runBody 108 = .ok (.iload 6, 2) := by decide +kernel
theorem dX6_runBody_110 : decode cX6_runBody 110 = .ok (.lookupswitch 263 #[(10, 98), (11, 105), (12, 120), (20, 151), (30, 167), (40, 180), (50, 193), (51, 205), (60, 221), (70, 234), (71, 247)], 98) := by decide +kernel
theorem dX6_runBody_208 : decode cX6_runBody 208 = .ok (.iload_n 3, 1) := by decide +kernel
theorem dX6_runBody_209 : decode cX6_runBody 209 = .ok (.aload_n 0, 1) := by decide +kernel
theorem dX6_runBody_210 : decode cX6_runBody 210 = .ok (.getfield 267, 3) := by decide +kernel
theorem dX6_runBody_213 : decode cX6_runBody 213 = .ok (.iadd, 1) := by decide +kernel
theorem dX6_runBody_214 : decode cX6_runBody 214 = .ok (.ireturn, 1) := by decide +kernel
theorem dX6_runBody_215 : decode cX6_runBody 215 = .ok (.aload_n 0, 1) := by decide +kernel
theorem dX6_runBody_216 : decode cX6_runBody 216 = .ok (.aload_n 0, 1) := by decide +kernel
theorem dX6_runBody_217 : decode cX6_runBody 217 = .ok (.getfield 266, 3) := by decide +kernel
theorem dX6_runBody_220 : decode cX6_runBody 220 = .ok (.iconst 0, 1) := by decide +kernel
theorem dX6_runBody_221 : decode cX6_runBody 221 = .ok (.iload_n 3, 1) := by decide +kernel
theorem dX6_runBody_222 : decode cX6_runBody 222 = .ok (.iload 7, 2) := by decide +kernel
theorem dX6_runBody_224 : decode cX6_runBody 224 = .ok (.invokestatic 273, 3) := by decide +kernel
theorem dX6_runBody_227 : decode cX6_runBody 227 = .ok (.iconst 2, 1) := by decide +kernel
theorem dX6_runBody_228 : decode cX6_runBody 228 = .ok (.imul, 1) := by decide +kernel
theorem dX6_runBody_229 : decode cX6_runBody 229 = .ok (.ireturn, 1) := by decide +kernel
theorem dX6_runBody_230 : decode cX6_runBody 230 = .ok (.aload_n 0, 1) := by decide +kernel
theorem dX6_runBody_231 : decode cX6_runBody 231 = .ok (.aload_n 0, 1) := by decide +kernel
theorem dX6_runBody_232 : decode cX6_runBody 232 = .ok (.getfield 266, 3) := by decide +kernel
theorem dX6_runBody_235 : decode cX6_runBody 235 = .ok (.iconst 1, 1) := by decide +kernel
theorem dX6_runBody_236 : decode cX6_runBody 236 = .ok (.iload_n 3, 1) := by decide +kernel
theorem dX6_runBody_237 : decode cX6_runBody 237 = .ok (.iload 7, 2) := by decide +kernel
theorem dX6_runBody_239 : decode cX6_runBody 239 = .ok (.invokestatic 273, 3) := by decide +kernel
theorem dX6_runBody_242 : decode cX6_runBody 242 = .ok (.aload_n 0, 1) := by decide +kernel
theorem dX6_runBody_243 : decode cX6_runBody 243 = .ok (.aload_n 0, 1) := by decide +kernel
theorem dX6_runBody_244 : decode cX6_runBody 244 = .ok (.getfield 266, 3) := by decide +kernel
theorem dX6_runBody_247 : decode cX6_runBody 247 = .ok (.iconst 0, 1) := by decide +kernel
theorem dX6_runBody_248 : decode cX6_runBody 248 = .ok (.iload_n 3, 1) := by decide +kernel
theorem dX6_runBody_249 : decode cX6_runBody 249 = .ok (.aload_n 0, 1) := by decide +kernel
theorem dX6_runBody_250 : decode cX6_runBody 250 = .ok (.getfield 270, 3) := by decide +kernel
theorem dX6_runBody_253 : decode cX6_runBody 253 = .ok (.isub, 1) := by decide +kernel
theorem dX6_runBody_254 : decode cX6_runBody 254 = .ok (.iload 7, 2) := by decide +kernel
theorem dX6_runBody_256 : decode cX6_runBody 256 = .ok (.invokestatic 273, 3) := by decide +kernel
theorem dX6_runBody_259 : decode cX6_runBody 259 = .ok (.ixor, 1) := by decide +kernel
theorem dX6_runBody_260 : decode cX6_runBody 260 = .ok (.ireturn, 1) := by decide +kernel
theorem dX6_runBody_261 : decode cX6_runBody 261 = .ok (.aload_n 0, 1) := by decide +kernel
theorem dX6_runBody_262 : decode cX6_runBody 262 = .ok (.iload 8, 2) := by decide +kernel
theorem dX6_runBody_264 : decode cX6_runBody 264 = .ok (.iconst 0, 1) := by decide +kernel
theorem dX6_runBody_265 : decode cX6_runBody 265 = .ok (.iload_n 3, 1) := by decide +kernel
theorem dX6_runBody_266 : decode cX6_runBody 266 = .ok (.iload 7, 2) := by decide +kernel
theorem dX6_runBody_268 : decode cX6_runBody 268 = .ok (.invokestatic 273, 3) := by decide +kernel
theorem dX6_runBody_271 : decode cX6_runBody 271 = .ok (.aload_n 0, 1) := by decide +kernel
theorem dX6_runBody_272 : decode cX6_runBody 272 = .ok (.getfield 270, 3) := by decide +kernel
theorem dX6_runBody_275 : decode cX6_runBody 275 = .ok (.iadd, 1) := by decide +kernel
theorem dX6_runBody_276 : decode cX6_runBody 276 = .ok (.ireturn, 1) := by decide +kernel
theorem dX6_runBody_277 : decode cX6_runBody 277 = .ok (.aload_n 0, 1) := by decide +kernel
theorem dX6_runBody_278 : decode cX6_runBody 278 = .ok (.iload 8, 2) := by decide +kernel
theorem dX6_runBody_280 : decode cX6_runBody 280 = .ok (.iconst 1, 1) := by decide +kernel
theorem dX6_runBody_281 : decode cX6_runBody 281 = .ok (.iload_n 3, 1) := by decide +kernel
theorem dX6_runBody_282 : decode cX6_runBody 282 = .ok (.iload 7, 2) := by decide +kernel
theorem dX6_runBody_284 : decode cX6_runBody 284 = .ok (.invokestatic 273, 3) := by decide +kernel
theorem dX6_runBody_287 : decode cX6_runBody 287 = .ok (.iconst 3, 1) := by decide +kernel
theorem dX6_runBody_288 : decode cX6_runBody 288 = .ok (.imul, 1) := by decide +kernel
theorem dX6_runBody_289 : decode cX6_runBody 289 = .ok (.ireturn, 1) := by decide +kernel
theorem dX6_runBody_290 : decode cX6_runBody 290 = .ok (.aload_n 0, 1) := by decide +kernel
theorem dX6_runBody_291 : decode cX6_runBody 291 = .ok (.iload 8, 2) := by decide +kernel
theorem dX6_runBody_293 : decode cX6_runBody 293 = .ok (.iconst 1, 1) := by decide +kernel
theorem dX6_runBody_294 : decode cX6_runBody 294 = .ok (.iload_n 3, 1) := by decide +kernel
theorem dX6_runBody_295 : decode cX6_runBody 295 = .ok (.iconst 1, 1) := by decide +kernel
theorem dX6_runBody_296 : decode cX6_runBody 296 = .ok (.iadd, 1) := by decide +kernel
theorem dX6_runBody_297 : decode cX6_runBody 297 = .ok (.iload 7, 2) := by decide +kernel
theorem dX6_runBody_299 : decode cX6_runBody 299 = .ok (.invokestatic 273, 3) := by decide +kernel
theorem dX6_runBody_302 : decode cX6_runBody 302 = .ok (.ireturn, 1) := by decide +kernel
theorem dX6_runBody_303 : decode cX6_runBody 303 = .ok (.aload_n 0, 1) := by decide +kernel
theorem dX6_runBody_304 : decode cX6_runBody 304 = .ok (.iload 8, 2) := by decide +kernel
theorem dX6_runBody_306 : decode cX6_runBody 306 = .ok (.iconst 2, 1) := by decide +kernel
theorem dX6_runBody_307 : decode cX6_runBody 307 = .ok (.iload_n 3, 1) := by decide +kernel
theorem dX6_runBody_308 : decode cX6_runBody 308 = .ok (.iload 7, 2) := by decide +kernel
theorem dX6_runBody_310 : decode cX6_runBody 310 = .ok (.invokestatic 273, 3) := by decide +kernel
theorem dX6_runBody_313 : decode cX6_runBody 313 = .ok (.ineg, 1) := by decide +kernel
theorem dX6_runBody_314 : decode cX6_runBody 314 = .ok (.ireturn, 1) := by decide +kernel
theorem dX6_runBody_315 : decode cX6_runBody 315 = .ok (.aload_n 0, 1) := by decide +kernel
theorem dX6_runBody_316 : decode cX6_runBody 316 = .ok (.iload 8, 2) := by decide +kernel
theorem dX6_runBody_318 : decode cX6_runBody 318 = .ok (.iconst 0, 1) := by decide +kernel
theorem dX6_runBody_319 : decode cX6_runBody 319 = .ok (.iload_n 3, 1) := by decide +kernel
theorem dX6_runBody_320 : decode cX6_runBody 320 = .ok (.iload 7, 2) := by decide +kernel
theorem dX6_runBody_322 : decode cX6_runBody 322 = .ok (.invokestatic 273, 3) := by decide +kernel
theorem dX6_runBody_325 : decode cX6_runBody 325 = .ok (.aload_n 0, 1) := by decide +kernel
theorem dX6_runBody_326 : decode cX6_runBody 326 = .ok (.getfield 267, 3) := by decide +kernel
theorem dX6_runBody_329 : decode cX6_runBody 329 = .ok (.isub, 1) := by decide +kernel
theorem dX6_runBody_330 : decode cX6_runBody 330 = .ok (.ireturn, 1) := by decide +kernel
theorem dX6_runBody_331 : decode cX6_runBody 331 = .ok (.aload_n 0, 1) := by decide +kernel
theorem dX6_runBody_332 : decode cX6_runBody 332 = .ok (.iload 8, 2) := by decide +kernel
theorem dX6_runBody_334 : decode cX6_runBody 334 = .ok (.iconst 2, 1) := by decide +kernel
theorem dX6_runBody_335 : decode cX6_runBody 335 = .ok (.iload_n 3, 1) := by decide +kernel
theorem dX6_runBody_336 : decode cX6_runBody 336 = .ok (.iload 7, 2) := by decide +kernel
theorem dX6_runBody_338 : decode cX6_runBody 338 = .ok (.invokestatic 273, 3) := by decide +kernel
theorem dX6_runBody_341 : decode cX6_runBody 341 = .ok (.iconst 5, 1) := by decide +kernel
theorem dX6_runBody_342 : decode cX6_runBody 342 = .ok (.ixor, 1) := by decide +kernel
theorem dX6_runBody_343 : decode cX6_runBody 343 = .ok (.ireturn, 1) := by decide +kernel
theorem dX6_runBody_344 : decode cX6_runBody 344 = .ok (.aload_n 0, 1) := by decide +kernel
theorem dX6_runBody_345 : decode cX6_runBody 345 = .ok (.iload 8, 2) := by decide +kernel
theorem dX6_runBody_347 : decode cX6_runBody 347 = .ok (.iconst 0, 1) := by decide +kernel
theorem dX6_runBody_348 : decode cX6_runBody 348 = .ok (.iload_n 3, 1) := by decide +kernel
theorem dX6_runBody_349 : decode cX6_runBody 349 = .ok (.iload 7, 2) := by decide +kernel
theorem dX6_runBody_351 : decode cX6_runBody 351 = .ok (.invokestatic 273, 3) := by decide +kernel
theorem dX6_runBody_354 : decode cX6_runBody 354 = .ok (.iconst 2, 1) := by decide +kernel
theorem dX6_runBody_355 : decode cX6_runBody 355 = .ok (.imul, 1) := by decide +kernel
theorem dX6_runBody_356 : decode cX6_runBody 356 = .ok (.ireturn, 1) := by decide +kernel
theorem dX6_runBody_357 : decode cX6_runBody 357 = .ok (.aload_n 0, 1) := by decide +kernel
theorem dX6_runBody_358 : decode cX6_runBody 358 = .ok (.iload 8, 2) := by decide +kernel
theorem dX6_runBody_360 : decode cX6_runBody 360 = .ok (.iconst 1, 1) := by decide +kernel
theorem dX6_runBody_361 : decode cX6_runBody 361 = .ok (.iload_n 3, 1) := by decide +kernel
theorem dX6_runBody_362 : decode cX6_runBody 362 = .ok (.aload_n 0, 1) := by decide +kernel
theorem dX6_runBody_363 : decode cX6_runBody 363 = .ok (.getfield 270, 3) := by decide +kernel
theorem dX6_runBody_366 : decode cX6_runBody 366 = .ok (.isub, 1) := by decide +kernel
theorem dX6_runBody_367 : decode cX6_runBody 367 = .ok (.iload 7, 2) := by decide +kernel
theorem dX6_runBody_369 : decode cX6_runBody 369 = .ok (.invokestatic 273, 3) := by decide +kernel
theorem dX6_runBody_372 : decode cX6_runBody 372 = .ok (.ireturn, 1) := by decide +kernel
theorem dX6_runBody_373 : decode cX6_runBody 373 = .ok (.iconst 0, 1) := by decide +kernel
theorem dX6_runBody_374 : decode cX6_runBody 374 = .ok (.ireturn, 1) := by decide +kernel
