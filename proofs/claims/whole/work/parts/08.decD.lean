/-! decode rows -/
theorem dX7_asked_131 : decode cX7_asked 131 = .ok (.goto 3, 3) := by decide +kernel
theorem dX7_asked_134 : decode cX7_asked 134 = .ok (.lload_n 2, 1) := by decide +kernel
theorem dX7_asked_135 : decode cX7_asked 135 = .ok (.lconst 1, 1) := by decide +kernel
theorem dX7_asked_136 : decode cX7_asked 136 = .ok (.lcmp, 1) := by decide +kernel
theorem dX7_asked_137 : decode cX7_asked 137 = .ok (.ifCond .ge 7, 3) := by decide +kernel
theorem dX7_asked_140 : decode cX7_asked 140 = .ok (.iconst 1, 1) := by decide +kernel
theorem dX7_asked_141 : decode cX7_asked 141 = .ok (.goto 19, 3) := by decide +kernel
theorem dX7_asked_144 : decode cX7_asked 144 = .ok (.lload_n 2, 1) := by decide +kernel
theorem dX7_asked_145 : decode cX7_asked 145 = .ok (.ldc2_w 217, 3) := by decide +kernel
theorem dX7_asked_148 : decode cX7_asked 148 = .ok (.lcmp, 1) := by decide +kernel
theorem dX7_asked_149 : decode cX7_asked 149 = .ok (.ifCond .le 9, 3) := by decide +kernel
theorem dX7_asked_152 : decode cX7_asked 152 = .ok (.sipush 9999, 3) := by decide +kernel
theorem dX7_asked_155 : decode cX7_asked 155 = .ok (.goto 5, 3) := by decide +kernel
theorem dX7_asked_158 : decode cX7_asked 158 = .ok (.lload_n 2, 1) := by decide +kernel
theorem dX7_asked_159 : decode cX7_asked 159 = .ok (.l2i, 1) := by decide +kernel
theorem dX7_asked_160 : decode cX7_asked 160 = .ok (.ireturn, 1) := by decide +kernel
theorem dX7_isForStamps_0 : decode cX7_isForStamps 0 = .ok (.aload_n 0, 1) := by decide +kernel
theorem dX7_isForStamps_1 : decode cX7_isForStamps 1 = .ok (.getfield 26, 3) := by decide +kernel
theorem dX7_isForStamps_4 : decode cX7_isForStamps 4 = .ok (.iload_n 1, 1) := by decide +kernel
theorem dX7_isForStamps_5 : decode cX7_isForStamps 5 = .ok (.iaload, 1) := by decide +kernel
theorem dX7_isForStamps_6 : decode cX7_isForStamps 6 = .ok (.iconst 4, 1) := by decide +kernel
theorem dX7_isForStamps_7 : decode cX7_isForStamps 7 = .ok (.if_icmp .eq 14, 3) := by decide +kernel
theorem dX7_isForStamps_10 : decode cX7_isForStamps 10 = .ok (.aload_n 0, 1) := by decide +kernel
theorem dX7_isForStamps_11 : decode cX7_isForStamps 11 = .ok (.getfield 26, 3) := by decide +kernel
theorem dX7_isForStamps_14 : decode cX7_isForStamps 14 = .ok (.iload_n 1, 1) := by decide +kernel
theorem dX7_isForStamps_15 : decode cX7_isForStamps 15 = .ok (.iaload, 1) := by decide +kernel
theorem dX7_isForStamps_16 : decode cX7_isForStamps 16 = .ok (.bipush 6, 2) := by decide +kernel
theorem dX7_isForStamps_18 : decode cX7_isForStamps 18 = .ok (.if_icmp .ne 7, 3) := by decide +kernel
theorem dX7_isForStamps_21 : decode cX7_isForStamps 21 = .ok (.iconst 1, 1) := by decide +kernel
theorem dX7_isForStamps_22 : decode cX7_isForStamps 22 = .ok (.goto 4, 3) := by decide +kernel
theorem dX7_isForStamps_25 : decode cX7_isForStamps 25 = .ok (.iconst 0, 1) := by decide +kernel
theorem dX7_isForStamps_26 : decode cX7_isForStamps 26 = .ok (.ireturn, 1) := by decide +kernel
theorem dX7_mayBuy_0 : decode cX7_mayBuy 0 = .ok (.aload_n 0, 1) := by decide +kernel
theorem dX7_mayBuy_1 : decode cX7_mayBuy 1 = .ok (.iload_n 2, 1) := by decide +kernel
theorem dX7_mayBuy_2 : decode cX7_mayBuy 2 = .ok (.invokevirtual 128, 3) := by decide +kernel
theorem dX7_mayBuy_5 : decode cX7_mayBuy 5 = .ok (.ifCond .eq 13, 3) := by decide +kernel
theorem dX7_mayBuy_8 : decode cX7_mayBuy 8 = .ok (.aload_n 0, 1) := by decide +kernel
theorem dX7_mayBuy_9 : decode cX7_mayBuy 9 = .ok (.getfield 56, 3) := by decide +kernel
theorem dX7_mayBuy_12 : decode cX7_mayBuy 12 = .ok (.iload_n 1, 1) := by decide +kernel
theorem dX7_mayBuy_13 : decode cX7_mayBuy 13 = .ok (.iaload, 1) := by decide +kernel
theorem dX7_mayBuy_14 : decode cX7_mayBuy 14 = .ok (.iload_n 2, 1) := by decide +kernel
theorem dX7_mayBuy_15 : decode cX7_mayBuy 15 = .ok (.if_icmp .ne 5, 3) := by decide +kernel
theorem dX7_mayBuy_18 : decode cX7_mayBuy 18 = .ok (.iconst 0, 1) := by decide +kernel
theorem dX7_mayBuy_19 : decode cX7_mayBuy 19 = .ok (.ireturn, 1) := by decide +kernel
theorem dX7_mayBuy_20 : decode cX7_mayBuy 20 = .ok (.aload_n 0, 1) := by decide +kernel
theorem dX7_mayBuy_21 : decode cX7_mayBuy 21 = .ok (.iload_n 2, 1) := by decide +kernel
theorem dX7_mayBuy_22 : decode cX7_mayBuy 22 = .ok (.invokevirtual 219, 3) := by decide +kernel
theorem dX7_mayBuy_25 : decode cX7_mayBuy 25 = .ok (.ifCond .eq 12, 3) := by decide +kernel
theorem dX7_mayBuy_28 : decode cX7_mayBuy 28 = .ok (.aload_n 0, 1) := by decide +kernel
theorem dX7_mayBuy_29 : decode cX7_mayBuy 29 = .ok (.getfield 47, 3) := by decide +kernel
theorem dX7_mayBuy_32 : decode cX7_mayBuy 32 = .ok (.iload_n 1, 1) := by decide +kernel
theorem dX7_mayBuy_33 : decode cX7_mayBuy 33 = .ok (.iaload, 1) := by decide +kernel
theorem dX7_mayBuy_34 : decode cX7_mayBuy 34 = .ok (.goto 16, 3) := by decide +kernel
theorem dX7_mayBuy_37 : decode cX7_mayBuy 37 = .ok (.aload_n 0, 1) := by decide +kernel
theorem dX7_mayBuy_38 : decode cX7_mayBuy 38 = .ok (.getfield 44, 3) := by decide +kernel
theorem dX7_mayBuy_41 : decode cX7_mayBuy 41 = .ok (.iload_n 1, 1) := by decide +kernel
theorem dX7_mayBuy_42 : decode cX7_mayBuy 42 = .ok (.iaload, 1) := by decide +kernel
theorem dX7_mayBuy_43 : decode cX7_mayBuy 43 = .ok (.aload_n 0, 1) := by decide +kernel
theorem dX7_mayBuy_44 : decode cX7_mayBuy 44 = .ok (.getfield 47, 3) := by decide +kernel
theorem dX7_mayBuy_47 : decode cX7_mayBuy 47 = .ok (.iload_n 1, 1) := by decide +kernel
theorem dX7_mayBuy_48 : decode cX7_mayBuy 48 = .ok (.iaload, 1) := by decide +kernel
theorem dX7_mayBuy_49 : decode cX7_mayBuy 49 = .ok (.iadd, 1) := by decide +kernel
theorem dX7_mayBuy_50 : decode cX7_mayBuy 50 = .ok (.aload_n 0, 1) := by decide +kernel
theorem dX7_mayBuy_51 : decode cX7_mayBuy 51 = .ok (.iload_n 2, 1) := by decide +kernel
theorem dX7_mayBuy_52 : decode cX7_mayBuy 52 = .ok (.invokevirtual 131, 3) := by decide +kernel
theorem dX7_mayBuy_55 : decode cX7_mayBuy 55 = .ok (.if_icmp .lt 7, 3) := by decide +kernel
theorem dX7_mayBuy_58 : decode cX7_mayBuy 58 = .ok (.iconst 1, 1) := by decide +kernel
theorem dX7_mayBuy_59 : decode cX7_mayBuy 59 = .ok (.goto 4, 3) := by decide +kernel
theorem dX7_mayBuy_62 : decode cX7_mayBuy 62 = .ok (.iconst 0, 1) := by decide +kernel
theorem dX7_mayBuy_63 : decode cX7_mayBuy 63 = .ok (.ireturn, 1) := by decide +kernel
theorem dX7_mayBe_0 : decode cX7_mayBe 0 = .ok (.iload_n 2, 1) := by decide +kernel
theorem dX7_mayBe_1 : decode cX7_mayBe 1 = .ok (.tableswitch 83 0 3 #[31, 33, 46, 68], 31) := by decide +kernel
theorem dX7_mayBe_32 : decode cX7_mayBe 32 = .ok (.iconst 1, 1) := by decide +kernel
theorem dX7_mayBe_33 : decode cX7_mayBe 33 = .ok (.ireturn, 1) := by decide +kernel
theorem dX7_mayBe_34 : decode cX7_mayBe 34 = .ok (.aload_n 0, 1) := by decide +kernel
theorem dX7_mayBe_35 : decode cX7_mayBe 35 = .ok (.getfield 13, 3) := by decide +kernel
theorem dX7_mayBe_38 : decode cX7_mayBe 38 = .ok (.ifCond .le 7, 3) := by decide +kernel
theorem dX7_mayBe_41 : decode cX7_mayBe 41 = .ok (.iconst 1, 1) := by decide +kernel
theorem dX7_mayBe_42 : decode cX7_mayBe 42 = .ok (.goto 4, 3) := by decide +kernel
theorem dX7_mayBe_45 : decode cX7_mayBe 45 = .ok (.iconst 0, 1) := by decide +kernel
theorem dX7_mayBe_46 : decode cX7_mayBe 46 = .ok (.ireturn, 1) := by decide +kernel
theorem dX7_mayBe_47 : decode cX7_mayBe 47 = .ok (.aload_n 0, 1) := by decide +kernel
theorem dX7_mayBe_48 : decode cX7_mayBe 48 = .ok (.getfield 7, 3) := by decide +kernel
theorem dX7_mayBe_51 : decode cX7_mayBe 51 = .ok (.ifCond .le 16, 3) := by decide +kernel
theorem dX7_mayBe_54 : decode cX7_mayBe 54 = .ok (.aload_n 0, 1) := by decide +kernel
theorem dX7_mayBe_55 : decode cX7_mayBe 55 = .ok (.getfield 44, 3) := by decide +kernel
theorem dX7_mayBe_58 : decode cX7_mayBe 58 = .ok (.iload_n 1, 1) := by decide +kernel
theorem dX7_mayBe_59 : decode cX7_mayBe 59 = .ok (.iaload, 1) := by decide +kernel
theorem dX7_mayBe_60 : decode cX7_mayBe 60 = .ok (.ifCond .le 7, 3) := by decide +kernel
theorem dX7_mayBe_63 : decode cX7_mayBe 63 = .ok (.iconst 1, 1) := by decide +kernel
theorem dX7_mayBe_64 : decode cX7_mayBe 64 = .ok (.goto 4, 3) := by decide +kernel
theorem dX7_mayBe_67 : decode cX7_mayBe 67 = .ok (.iconst 0, 1) := by decide +kernel
theorem dX7_mayBe_68 : decode cX7_mayBe 68 = .ok (.ireturn, 1) := by decide +kernel
theorem dX7_mayBe_69 : decode cX7_mayBe 69 = .ok (.aload_n 0, 1) := by decide +kernel
theorem dX7_mayBe_70 : decode cX7_mayBe 70 = .ok (.getfield 50, 3) := by decide +kernel
theorem dX7_mayBe_73 : decode cX7_mayBe 73 = .ok (.iload_n 1, 1) := by decide +kernel
theorem dX7_mayBe_74 : decode cX7_mayBe 74 = .ok (.iaload, 1) := by decide +kernel
theorem dX7_mayBe_75 : decode cX7_mayBe 75 = .ok (.ifCond .le 7, 3) := by decide +kernel
theorem dX7_mayBe_78 : decode cX7_mayBe 78 = .ok (.iconst 1, 1) := by decide +kernel
theorem dX7_mayBe_79 : decode cX7_mayBe 79 = .ok (.goto 4, 3) := by decide +kernel
theorem dX7_mayBe_82 : decode cX7_mayBe 82 = .ok (.iconst 0, 1) := by decide +kernel
theorem dX7_mayBe_83 : decode cX7_mayBe 83 = .ok (.ireturn, 1) := by decide +kernel
theorem dX7_mayBe_84 : decode cX7_mayBe 84 = .ok (.iload_n 2, 1) := by decide +kernel
theorem dX7_mayBe_85 : decode cX7_mayBe 85 = .ok (.bipush 10, 2) := by decide +kernel
theorem dX7_mayBe_87 : decode cX7_mayBe 87 = .ok (.if_icmp .lt 25, 3) := by decide +kernel
theorem dX7_mayBe_90 : decode cX7_mayBe 90 = .ok (.iload_n 2, 1) := by decide +kernel
theorem dX7_mayBe_91 : decode cX7_mayBe 91 = .ok (.bipush 16, 2) := by decide +kernel
theorem dX7_mayBe_93 : decode cX7_mayBe 93 = .ok (.if_icmp .ge 19, 3) := by decide +kernel
theorem dX7_mayBe_96 : decode cX7_mayBe 96 = .ok (.aload_n 0, 1) := by decide +kernel
theorem dX7_mayBe_97 : decode cX7_mayBe 97 = .ok (.iload_n 1, 1) := by decide +kernel
theorem dX7_mayBe_98 : decode cX7_mayBe 98 = .ok (.iload_n 2, 1) := by decide +kernel
theorem dX7_mayBe_99 : decode cX7_mayBe 99 = .ok (.bipush 10, 2) := by decide +kernel
theorem dX7_mayBe_101 : decode cX7_mayBe 101 = .ok (.isub, 1) := by decide +kernel
theorem dX7_mayBe_102 : decode cX7_mayBe 102 = .ok (.invokevirtual 222, 3) := by decide +kernel
theorem dX7_mayBe_105 : decode cX7_mayBe 105 = .ok (.ifCond .eq 7, 3) := by decide +kernel
theorem dX7_mayBe_108 : decode cX7_mayBe 108 = .ok (.iconst 1, 1) := by decide +kernel
theorem dX7_mayBe_109 : decode cX7_mayBe 109 = .ok (.goto 4, 3) := by decide +kernel
theorem dX7_mayBe_112 : decode cX7_mayBe 112 = .ok (.iconst 0, 1) := by decide +kernel
theorem dX7_mayBe_113 : decode cX7_mayBe 113 = .ok (.ireturn, 1) := by decide +kernel
theorem dX7_full_0 : decode cX7_full 0 = .ok (.iload_n 1, 1) := by decide +kernel
theorem dX7_full_1 : decode cX7_full 1 = .ok (.sipush 9999, 3) := by decide +kernel
theorem dX7_full_4 : decode cX7_full 4 = .ok (.if_icmp .le 9, 3) := by decide +kernel
theorem dX7_full_7 : decode cX7_full 7 = .ok (.sipush 9999, 3) := by decide +kernel
theorem dX7_full_10 : decode cX7_full 10 = .ok (.goto 4, 3) := by decide +kernel
theorem dX7_full_13 : decode cX7_full 13 = .ok (.iload_n 1, 1) := by decide +kernel
theorem dX7_full_14 : decode cX7_full 14 = .ok (.ireturn, 1) := by decide +kernel
theorem dX7_buys_0 : decode cX7_buys 0 = .ok (.aload_n 0, 1) := by decide +kernel
theorem dX7_buys_1 : decode cX7_buys 1 = .ok (.iload_n 2, 1) := by decide +kernel
theorem dX7_buys_2 : decode cX7_buys 2 = .ok (.invokevirtual 131, 3) := by decide +kernel
theorem dX7_buys_5 : decode cX7_buys 5 = .ok (.istore_n 3, 1) := by decide +kernel
theorem dX7_buys_6 : decode cX7_buys 6 = .ok (.aload_n 0, 1) := by decide +kernel
theorem dX7_buys_7 : decode cX7_buys 7 = .ok (.iload_n 2, 1) := by decide +kernel
theorem dX7_buys_8 : decode cX7_buys 8 = .ok (.invokevirtual 219, 3) := by decide +kernel
theorem dX7_buys_11 : decode cX7_buys 11 = .ok (.ifCond .eq 7, 3) := by decide +kernel
theorem dX7_buys_14 : decode cX7_buys 14 = .ok (.iconst 0, 1) := by decide +kernel
theorem dX7_buys_15 : decode cX7_buys 15 = .ok (.goto 23, 3) := by decide +kernel
theorem dX7_buys_18 : decode cX7_buys 18 = .ok (.aload_n 0, 1) := by decide +kernel
theorem dX7_buys_19 : decode cX7_buys 19 = .ok (.getfield 44, 3) := by decide +kernel
theorem dX7_buys_22 : decode cX7_buys 22 = .ok (.iload_n 1, 1) := by decide +kernel
theorem dX7_buys_23 : decode cX7_buys 23 = .ok (.iaload, 1) := by decide +kernel
theorem dX7_buys_24 : decode cX7_buys 24 = .ok (.iload_n 3, 1) := by decide +kernel
theorem dX7_buys_25 : decode cX7_buys 25 = .ok (.if_icmp .ge 12, 3) := by decide +kernel
theorem dX7_buys_28 : decode cX7_buys 28 = .ok (.aload_n 0, 1) := by decide +kernel
theorem dX7_buys_29 : decode cX7_buys 29 = .ok (.getfield 44, 3) := by decide +kernel
theorem dX7_buys_32 : decode cX7_buys 32 = .ok (.iload_n 1, 1) := by decide +kernel
theorem dX7_buys_33 : decode cX7_buys 33 = .ok (.iaload, 1) := by decide +kernel
theorem dX7_buys_34 : decode cX7_buys 34 = .ok (.goto 4, 3) := by decide +kernel
theorem dX7_buys_37 : decode cX7_buys 37 = .ok (.iload_n 3, 1) := by decide +kernel
theorem dX7_buys_38 : decode cX7_buys 38 = .ok (.istore 4, 2) := by decide +kernel
theorem dX7_buys_40 : decode cX7_buys 40 = .ok (.aload_n 0, 1) := by decide +kernel
theorem dX7_buys_41 : decode cX7_buys 41 = .ok (.getfield 44, 3) := by decide +kernel
theorem dX7_buys_44 : decode cX7_buys 44 = .ok (.iload_n 1, 1) := by decide +kernel
theorem dX7_buys_45 : decode cX7_buys 45 = .ok (.dup2, 1) := by decide +kernel
theorem dX7_buys_46 : decode cX7_buys 46 = .ok (.iaload, 1) := by decide +kernel
theorem dX7_buys_47 : decode cX7_buys 47 = .ok (.iload 4, 2) := by decide +kernel
theorem dX7_buys_49 : decode cX7_buys 49 = .ok (.isub, 1) := by decide +kernel
theorem dX7_buys_50 : decode cX7_buys 50 = .ok (.iastore, 1) := by decide +kernel
theorem dX7_buys_51 : decode cX7_buys 51 = .ok (.aload_n 0, 1) := by decide +kernel
theorem dX7_buys_52 : decode cX7_buys 52 = .ok (.getfield 47, 3) := by decide +kernel
theorem dX7_buys_55 : decode cX7_buys 55 = .ok (.iload_n 1, 1) := by decide +kernel
theorem dX7_buys_56 : decode cX7_buys 56 = .ok (.dup2, 1) := by decide +kernel
theorem dX7_buys_57 : decode cX7_buys 57 = .ok (.iaload, 1) := by decide +kernel
theorem dX7_buys_58 : decode cX7_buys 58 = .ok (.iload_n 3, 1) := by decide +kernel
theorem dX7_buys_59 : decode cX7_buys 59 = .ok (.iload 4, 2) := by decide +kernel
theorem dX7_buys_61 : decode cX7_buys 61 = .ok (.isub, 1) := by decide +kernel
theorem dX7_buys_62 : decode cX7_buys 62 = .ok (.isub, 1) := by decide +kernel
theorem dX7_buys_63 : decode cX7_buys 63 = .ok (.iastore, 1) := by decide +kernel
theorem dX7_buys_64 : decode cX7_buys 64 = .ok (.aload_n 0, 1) := by decide +kernel
theorem dX7_buys_65 : decode cX7_buys 65 = .ok (.dup, 1) := by decide +kernel
theorem dX7_buys_66 : decode cX7_buys 66 = .ok (.getfield 201, 3) := by decide +kernel
theorem dX7_buys_69 : decode cX7_buys 69 = .ok (.iload_n 3, 1) := by decide +kernel
theorem dX7_buys_70 : decode cX7_buys 70 = .ok (.iadd, 1) := by decide +kernel
theorem dX7_buys_71 : decode cX7_buys 71 = .ok (.putfield 201, 3) := by decide +kernel
theorem dX7_buys_74 : decode cX7_buys 74 = .ok (.aload_n 0, 1) := by decide +kernel
theorem dX7_buys_75 : decode cX7_buys 75 = .ok (.getfield 35, 3) := by decide +kernel
theorem dX7_buys_78 : decode cX7_buys 78 = .ok (.iload_n 2, 1) := by decide +kernel
theorem dX7_buys_79 : decode cX7_buys 79 = .ok (.dup2, 1) := by decide +kernel
theorem dX7_buys_80 : decode cX7_buys 80 = .ok (.iaload, 1) := by decide +kernel
theorem dX7_buys_81 : decode cX7_buys 81 = .ok (.iconst 1, 1) := by decide +kernel
theorem dX7_buys_82 : decode cX7_buys 82 = .ok (.iadd, 1) := by decide +kernel
theorem dX7_buys_83 : decode cX7_buys 83 = .ok (.iastore, 1) := by decide +kernel
theorem dX7_buys_84 : decode cX7_buys 84 = .ok (.aload_n 0, 1) := by decide +kernel
theorem dX7_buys_85 : decode cX7_buys 85 = .ok (.getfield 38, 3) := by decide +kernel
theorem dX7_buys_88 : decode cX7_buys 88 = .ok (.iload_n 2, 1) := by decide +kernel
theorem dX7_buys_89 : decode cX7_buys 89 = .ok (.iconst 0, 1) := by decide +kernel
theorem dX7_buys_90 : decode cX7_buys 90 = .ok (.iastore, 1) := by decide +kernel
theorem dX7_buys_91 : decode cX7_buys 91 = .ok (.aload_n 0, 1) := by decide +kernel
theorem dX7_buys_92 : decode cX7_buys 92 = .ok (.getfield 53, 3) := by decide +kernel
theorem dX7_buys_95 : decode cX7_buys 95 = .ok (.iload_n 1, 1) := by decide +kernel
theorem dX7_buys_96 : decode cX7_buys 96 = .ok (.dup2, 1) := by decide +kernel
theorem dX7_buys_97 : decode cX7_buys 97 = .ok (.iaload, 1) := by decide +kernel
theorem dX7_buys_98 : decode cX7_buys 98 = .ok (.iconst 1, 1) := by decide +kernel
theorem dX7_buys_99 : decode cX7_buys 99 = .ok (.iadd, 1) := by decide +kernel
theorem dX7_buys_100 : decode cX7_buys 100 = .ok (.iastore, 1) := by decide +kernel
theorem dX7_buys_101 : decode cX7_buys 101 = .ok (.aload_n 0, 1) := by decide +kernel
theorem dX7_buys_102 : decode cX7_buys 102 = .ok (.dup, 1) := by decide +kernel
theorem dX7_buys_103 : decode cX7_buys 103 = .ok (.getfield 204, 3) := by decide +kernel
theorem dX7_buys_106 : decode cX7_buys 106 = .ok (.iconst 1, 1) := by decide +kernel
theorem dX7_buys_107 : decode cX7_buys 107 = .ok (.iadd, 1) := by decide +kernel
theorem dX7_buys_108 : decode cX7_buys 108 = .ok (.putfield 204, 3) := by decide +kernel
theorem dX7_buys_111 : decode cX7_buys 111 = .ok (.iconst 0, 1) := by decide +kernel
theorem dX7_buys_112 : decode cX7_buys 112 = .ok (.istore 5, 2) := by decide +kernel
theorem dX7_buys_114 : decode cX7_buys 114 = .ok (.iload 5, 2) := by decide +kernel
theorem dX7_buys_116 : decode cX7_buys 116 = .ok (.aload_n 0, 1) := by decide +kernel
theorem dX7_buys_117 : decode cX7_buys 117 = .ok (.getfield 117, 3) := by decide +kernel
theorem dX7_buys_120 : decode cX7_buys 120 = .ok (.if_icmp .ge 68, 3) := by decide +kernel
theorem dX7_buys_123 : decode cX7_buys 123 = .ok (.aload_n 0, 1) := by decide +kernel
theorem dX7_buys_124 : decode cX7_buys 124 = .ok (.getfield 56, 3) := by decide +kernel
theorem dX7_buys_127 : decode cX7_buys 127 = .ok (.iload 5, 2) := by decide +kernel
theorem dX7_buys_129 : decode cX7_buys 129 = .ok (.iaload, 1) := by decide +kernel
theorem dX7_buys_130 : decode cX7_buys 130 = .ok (.iload_n 2, 1) := by decide +kernel
theorem dX7_buys_131 : decode cX7_buys 131 = .ok (.if_icmp .eq 6, 3) := by decide +kernel
theorem dX7_buys_134 : decode cX7_buys 134 = .ok (.goto 48, 3) := by decide +kernel
theorem dX7_buys_137 : decode cX7_buys 137 = .ok (.aload_n 0, 1) := by decide +kernel
theorem dX7_buys_138 : decode cX7_buys 138 = .ok (.getfield 44, 3) := by decide +kernel
theorem dX7_buys_141 : decode cX7_buys 141 = .ok (.iload 5, 2) := by decide +kernel
theorem dX7_buys_143 : decode cX7_buys 143 = .ok (.aload_n 0, 1) := by decide +kernel
theorem dX7_buys_144 : decode cX7_buys 144 = .ok (.aload_n 0, 1) := by decide +kernel
theorem dX7_buys_145 : decode cX7_buys 145 = .ok (.getfield 44, 3) := by decide +kernel
theorem dX7_buys_148 : decode cX7_buys 148 = .ok (.iload 5, 2) := by decide +kernel
theorem dX7_buys_150 : decode cX7_buys 150 = .ok (.iaload, 1) := by decide +kernel
theorem dX7_buys_151 : decode cX7_buys 151 = .ok (.iload 4, 2) := by decide +kernel
theorem dX7_buys_153 : decode cX7_buys 153 = .ok (.iadd, 1) := by decide +kernel
theorem dX7_buys_154 : decode cX7_buys 154 = .ok (.invokevirtual 225, 3) := by decide +kernel
theorem dX7_buys_157 : decode cX7_buys 157 = .ok (.iastore, 1) := by decide +kernel
theorem dX7_buys_158 : decode cX7_buys 158 = .ok (.aload_n 0, 1) := by decide +kernel
theorem dX7_buys_159 : decode cX7_buys 159 = .ok (.getfield 47, 3) := by decide +kernel
theorem dX7_buys_162 : decode cX7_buys 162 = .ok (.iload 5, 2) := by decide +kernel
theorem dX7_buys_164 : decode cX7_buys 164 = .ok (.aload_n 0, 1) := by decide +kernel
theorem dX7_buys_165 : decode cX7_buys 165 = .ok (.aload_n 0, 1) := by decide +kernel
theorem dX7_buys_166 : decode cX7_buys 166 = .ok (.getfield 47, 3) := by decide +kernel
theorem dX7_buys_169 : decode cX7_buys 169 = .ok (.iload 5, 2) := by decide +kernel
theorem dX7_buys_171 : decode cX7_buys 171 = .ok (.iaload, 1) := by decide +kernel
theorem dX7_buys_172 : decode cX7_buys 172 = .ok (.iload_n 3, 1) := by decide +kernel
theorem dX7_buys_173 : decode cX7_buys 173 = .ok (.iadd, 1) := by decide +kernel
theorem dX7_buys_174 : decode cX7_buys 174 = .ok (.iload 4, 2) := by decide +kernel
theorem dX7_buys_176 : decode cX7_buys 176 = .ok (.isub, 1) := by decide +kernel
theorem dX7_buys_177 : decode cX7_buys 177 = .ok (.invokevirtual 225, 3) := by decide +kernel
theorem dX7_buys_180 : decode cX7_buys 180 = .ok (.iastore, 1) := by decide +kernel
theorem dX7_buys_181 : decode cX7_buys 181 = .ok (.return_, 1) := by decide +kernel
theorem dX7_buys_182 : decode cX7_buys 182 = .ok (.iinc 5 1, 3) := by decide +kernel
theorem dX7_buys_185 : decode cX7_buys 185 = .ok (.goto (-71), 3) := by decide +kernel
theorem dX7_buys_188 : decode cX7_buys 188 = .ok (.return_, 1) := by decide +kernel
theorem dX7_makes_0 : decode cX7_makes 0 = .ok (.iload_n 2, 1) := by decide +kernel
theorem dX7_makes_1 : decode cX7_makes 1 = .ok (.iconst 1, 1) := by decide +kernel
theorem dX7_makes_2 : decode cX7_makes 2 = .ok (.if_icmp .ne 58, 3) := by decide +kernel
theorem dX7_makes_5 : decode cX7_makes 5 = .ok (.aload_n 0, 1) := by decide +kernel
theorem dX7_makes_6 : decode cX7_makes 6 = .ok (.getfield 41, 3) := by decide +kernel
theorem dX7_makes_9 : decode cX7_makes 9 = .ok (.iload_n 1, 1) := by decide +kernel
theorem dX7_makes_10 : decode cX7_makes 10 = .ok (.iaload, 1) := by decide +kernel
theorem dX7_makes_11 : decode cX7_makes 11 = .ok (.aload_n 0, 1) := by decide +kernel
theorem dX7_makes_12 : decode cX7_makes 12 = .ok (.getfield 13, 3) := by decide +kernel
theorem dX7_makes_15 : decode cX7_makes 15 = .ok (.if_icmp .ge 12, 3) := by decide +kernel
theorem dX7_makes_18 : decode cX7_makes 18 = .ok (.aload_n 0, 1) := by decide +kernel
theorem dX7_makes_19 : decode cX7_makes 19 = .ok (.getfield 41, 3) := by decide +kernel
theorem dX7_makes_22 : decode cX7_makes 22 = .ok (.iload_n 1, 1) := by decide +kernel
theorem dX7_makes_23 : decode cX7_makes 23 = .ok (.iaload, 1) := by decide +kernel
theorem dX7_makes_24 : decode cX7_makes 24 = .ok (.goto 7, 3) := by decide +kernel
theorem dX7_makes_27 : decode cX7_makes 27 = .ok (.aload_n 0, 1) := by decide +kernel
theorem dX7_makes_28 : decode cX7_makes 28 = .ok (.getfield 13, 3) := by decide +kernel
theorem dX7_makes_31 : decode cX7_makes 31 = .ok (.istore_n 3, 1) := by decide +kernel
theorem dX7_makes_32 : decode cX7_makes 32 = .ok (.aload_n 0, 1) := by decide +kernel
theorem dX7_makes_33 : decode cX7_makes 33 = .ok (.dup, 1) := by decide +kernel
theorem dX7_makes_34 : decode cX7_makes 34 = .ok (.getfield 13, 3) := by decide +kernel
theorem dX7_makes_37 : decode cX7_makes 37 = .ok (.iload_n 3, 1) := by decide +kernel
theorem dX7_makes_38 : decode cX7_makes 38 = .ok (.isub, 1) := by decide +kernel
theorem dX7_makes_39 : decode cX7_makes 39 = .ok (.putfield 13, 3) := by decide +kernel
theorem dX7_makes_42 : decode cX7_makes 42 = .ok (.aload_n 0, 1) := by decide +kernel
theorem dX7_makes_43 : decode cX7_makes 43 = .ok (.getfield 44, 3) := by decide +kernel
theorem dX7_makes_46 : decode cX7_makes 46 = .ok (.iload_n 1, 1) := by decide +kernel
theorem dX7_makes_47 : decode cX7_makes 47 = .ok (.aload_n 0, 1) := by decide +kernel
theorem dX7_makes_48 : decode cX7_makes 48 = .ok (.aload_n 0, 1) := by decide +kernel
theorem dX7_makes_49 : decode cX7_makes 49 = .ok (.getfield 44, 3) := by decide +kernel
theorem dX7_makes_52 : decode cX7_makes 52 = .ok (.iload_n 1, 1) := by decide +kernel
theorem dX7_makes_53 : decode cX7_makes 53 = .ok (.iaload, 1) := by decide +kernel
theorem dX7_makes_54 : decode cX7_makes 54 = .ok (.iload_n 3, 1) := by decide +kernel
theorem dX7_makes_55 : decode cX7_makes 55 = .ok (.iadd, 1) := by decide +kernel
theorem dX7_makes_56 : decode cX7_makes 56 = .ok (.invokevirtual 225, 3) := by decide +kernel
theorem dX7_makes_59 : decode cX7_makes 59 = .ok (.iastore, 1) := by decide +kernel
theorem dX7_makes_60 : decode cX7_makes 60 = .ok (.iload_n 2, 1) := by decide +kernel
theorem dX7_makes_61 : decode cX7_makes 61 = .ok (.iconst 2, 1) := by decide +kernel
theorem dX7_makes_62 : decode cX7_makes 62 = .ok (.if_icmp .ne 58, 3) := by decide +kernel
theorem dX7_makes_65 : decode cX7_makes 65 = .ok (.aload_n 0, 1) := by decide +kernel
theorem dX7_makes_66 : decode cX7_makes 66 = .ok (.getfield 7, 3) := by decide +kernel
theorem dX7_makes_69 : decode cX7_makes 69 = .ok (.aload_n 0, 1) := by decide +kernel
theorem dX7_makes_70 : decode cX7_makes 70 = .ok (.getfield 44, 3) := by decide +kernel
theorem dX7_makes_73 : decode cX7_makes 73 = .ok (.iload_n 1, 1) := by decide +kernel
theorem dX7_makes_74 : decode cX7_makes 74 = .ok (.iaload, 1) := by decide +kernel
theorem dX7_makes_75 : decode cX7_makes 75 = .ok (.if_icmp .ge 10, 3) := by decide +kernel
theorem dX7_makes_78 : decode cX7_makes 78 = .ok (.aload_n 0, 1) := by decide +kernel
theorem dX7_makes_79 : decode cX7_makes 79 = .ok (.getfield 7, 3) := by decide +kernel
theorem dX7_makes_82 : decode cX7_makes 82 = .ok (.goto 9, 3) := by decide +kernel
theorem dX7_makes_85 : decode cX7_makes 85 = .ok (.aload_n 0, 1) := by decide +kernel
theorem dX7_makes_86 : decode cX7_makes 86 = .ok (.getfield 44, 3) := by decide +kernel
theorem dX7_makes_89 : decode cX7_makes 89 = .ok (.iload_n 1, 1) := by decide +kernel
theorem dX7_makes_90 : decode cX7_makes 90 = .ok (.iaload, 1) := by decide +kernel
theorem dX7_makes_91 : decode cX7_makes 91 = .ok (.istore_n 3, 1) := by decide +kernel
theorem dX7_makes_92 : decode cX7_makes 92 = .ok (.aload_n 0, 1) := by decide +kernel
theorem dX7_makes_93 : decode cX7_makes 93 = .ok (.getfield 44, 3) := by decide +kernel
theorem dX7_makes_96 : decode cX7_makes 96 = .ok (.iload_n 1, 1) := by decide +kernel
theorem dX7_makes_97 : decode cX7_makes 97 = .ok (.dup2, 1) := by decide +kernel
theorem dX7_makes_98 : decode cX7_makes 98 = .ok (.iaload, 1) := by decide +kernel
theorem dX7_makes_99 : decode cX7_makes 99 = .ok (.iload_n 3, 1) := by decide +kernel
theorem dX7_makes_100 : decode cX7_makes 100 = .ok (.isub, 1) := by decide +kernel
theorem dX7_makes_101 : decode cX7_makes 101 = .ok (.iastore, 1) := by decide +kernel
theorem dX7_makes_102 : decode cX7_makes 102 = .ok (.aload_n 0, 1) := by decide +kernel
theorem dX7_makes_103 : decode cX7_makes 103 = .ok (.getfield 47, 3) := by decide +kernel
theorem dX7_makes_106 : decode cX7_makes 106 = .ok (.iload_n 1, 1) := by decide +kernel
theorem dX7_makes_107 : decode cX7_makes 107 = .ok (.aload_n 0, 1) := by decide +kernel
theorem dX7_makes_108 : decode cX7_makes 108 = .ok (.aload_n 0, 1) := by decide +kernel
theorem dX7_makes_109 : decode cX7_makes 109 = .ok (.getfield 47, 3) := by decide +kernel
theorem dX7_makes_112 : decode cX7_makes 112 = .ok (.iload_n 1, 1) := by decide +kernel
theorem dX7_makes_113 : decode cX7_makes 113 = .ok (.iaload, 1) := by decide +kernel
theorem dX7_makes_114 : decode cX7_makes 114 = .ok (.iload_n 3, 1) := by decide +kernel
theorem dX7_makes_115 : decode cX7_makes 115 = .ok (.iadd, 1) := by decide +kernel
theorem dX7_makes_116 : decode cX7_makes 116 = .ok (.invokevirtual 225, 3) := by decide +kernel
theorem dX7_makes_119 : decode cX7_makes 119 = .ok (.iastore, 1) := by decide +kernel
theorem dX7_makes_120 : decode cX7_makes 120 = .ok (.iload_n 2, 1) := by decide +kernel
theorem dX7_makes_121 : decode cX7_makes 121 = .ok (.iconst 3, 1) := by decide +kernel
theorem dX7_makes_122 : decode cX7_makes 122 = .ok (.if_icmp .ne 32, 3) := by decide +kernel
theorem dX7_makes_125 : decode cX7_makes 125 = .ok (.aload_n 0, 1) := by decide +kernel
theorem dX7_makes_126 : decode cX7_makes 126 = .ok (.getfield 50, 3) := by decide +kernel
theorem dX7_makes_129 : decode cX7_makes 129 = .ok (.iload_n 1, 1) := by decide +kernel
theorem dX7_makes_130 : decode cX7_makes 130 = .ok (.dup2, 1) := by decide +kernel
theorem dX7_makes_131 : decode cX7_makes 131 = .ok (.iaload, 1) := by decide +kernel
theorem dX7_makes_132 : decode cX7_makes 132 = .ok (.iconst 1, 1) := by decide +kernel
theorem dX7_makes_133 : decode cX7_makes 133 = .ok (.isub, 1) := by decide +kernel
theorem dX7_makes_134 : decode cX7_makes 134 = .ok (.iastore, 1) := by decide +kernel
theorem dX7_makes_135 : decode cX7_makes 135 = .ok (.aload_n 0, 1) := by decide +kernel
theorem dX7_makes_136 : decode cX7_makes 136 = .ok (.getfield 44, 3) := by decide +kernel
theorem dX7_makes_139 : decode cX7_makes 139 = .ok (.iload_n 1, 1) := by decide +kernel
theorem dX7_makes_140 : decode cX7_makes 140 = .ok (.aload_n 0, 1) := by decide +kernel
theorem dX7_makes_141 : decode cX7_makes 141 = .ok (.aload_n 0, 1) := by decide +kernel
theorem dX7_makes_142 : decode cX7_makes 142 = .ok (.getfield 44, 3) := by decide +kernel
theorem dX7_makes_145 : decode cX7_makes 145 = .ok (.iload_n 1, 1) := by decide +kernel
theorem dX7_makes_146 : decode cX7_makes 146 = .ok (.iaload, 1) := by decide +kernel
theorem dX7_makes_147 : decode cX7_makes 147 = .ok (.bipush 10, 2) := by decide +kernel
theorem dX7_makes_149 : decode cX7_makes 149 = .ok (.iadd, 1) := by decide +kernel
theorem dX7_makes_150 : decode cX7_makes 150 = .ok (.invokevirtual 225, 3) := by decide +kernel
theorem dX7_makes_153 : decode cX7_makes 153 = .ok (.iastore, 1) := by decide +kernel
theorem dX7_makes_154 : decode cX7_makes 154 = .ok (.iload_n 2, 1) := by decide +kernel
theorem dX7_makes_155 : decode cX7_makes 155 = .ok (.bipush 10, 2) := by decide +kernel
theorem dX7_makes_157 : decode cX7_makes 157 = .ok (.if_icmp .lt 12, 3) := by decide +kernel
theorem dX7_makes_160 : decode cX7_makes 160 = .ok (.aload_n 0, 1) := by decide +kernel
theorem dX7_makes_161 : decode cX7_makes 161 = .ok (.iload_n 1, 1) := by decide +kernel
theorem dX7_makes_162 : decode cX7_makes 162 = .ok (.iload_n 2, 1) := by decide +kernel
theorem dX7_makes_163 : decode cX7_makes 163 = .ok (.bipush 10, 2) := by decide +kernel
theorem dX7_makes_165 : decode cX7_makes 165 = .ok (.isub, 1) := by decide +kernel
theorem dX7_makes_166 : decode cX7_makes 166 = .ok (.invokevirtual 228, 3) := by decide +kernel
theorem dX7_makes_169 : decode cX7_makes 169 = .ok (.return_, 1) := by decide +kernel
theorem dX7_begins_0 : decode cX7_begins 0 = .ok (.iconst 0, 1) := by decide +kernel
theorem dX7_begins_1 : decode cX7_begins 1 = .ok (.istore_n 1, 1) := by decide +kernel
theorem dX7_begins_2 : decode cX7_begins 2 = .ok (.iload_n 1, 1) := by decide +kernel
theorem dX7_begins_3 : decode cX7_begins 3 = .ok (.aload_n 0, 1) := by decide +kernel
theorem dX7_begins_4 : decode cX7_begins 4 = .ok (.getfield 114, 3) := by decide +kernel
theorem dX7_begins_7 : decode cX7_begins 7 = .ok (.if_icmp .ge 21, 3) := by decide +kernel
theorem dX7_begins_10 : decode cX7_begins 10 = .ok (.aload_n 0, 1) := by decide +kernel
theorem dX7_begins_11 : decode cX7_begins 11 = .ok (.getfield 96, 3) := by decide +kernel
theorem dX7_begins_14 : decode cX7_begins 14 = .ok (.iload_n 1, 1) := by decide +kernel
theorem dX7_begins_15 : decode cX7_begins 15 = .ok (.aload_n 0, 1) := by decide +kernel
theorem dX7_begins_16 : decode cX7_begins 16 = .ok (.getfield 35, 3) := by decide +kernel
theorem dX7_begins_19 : decode cX7_begins 19 = .ok (.iload_n 1, 1) := by decide +kernel
theorem dX7_begins_20 : decode cX7_begins 20 = .ok (.iaload, 1) := by decide +kernel
theorem dX7_begins_21 : decode cX7_begins 21 = .ok (.iastore, 1) := by decide +kernel
theorem dX7_begins_22 : decode cX7_begins 22 = .ok (.iinc 1 1, 3) := by decide +kernel
theorem dX7_begins_25 : decode cX7_begins 25 = .ok (.goto (-23), 3) := by decide +kernel
theorem dX7_begins_28 : decode cX7_begins 28 = .ok (.return_, 1) := by decide +kernel
theorem dX7_ends_0 : decode cX7_ends 0 = .ok (.iconst 0, 1) := by decide +kernel
theorem dX7_ends_1 : decode cX7_ends 1 = .ok (.istore_n 1, 1) := by decide +kernel
theorem dX7_ends_2 : decode cX7_ends 2 = .ok (.iload_n 1, 1) := by decide +kernel
theorem dX7_ends_3 : decode cX7_ends 3 = .ok (.aload_n 0, 1) := by decide +kernel
theorem dX7_ends_4 : decode cX7_ends 4 = .ok (.getfield 114, 3) := by decide +kernel
theorem dX7_ends_7 : decode cX7_ends 7 = .ok (.if_icmp .ge 46, 3) := by decide +kernel
theorem dX7_ends_10 : decode cX7_ends 10 = .ok (.aload_n 0, 1) := by decide +kernel
theorem dX7_ends_11 : decode cX7_ends 11 = .ok (.getfield 35, 3) := by decide +kernel
theorem dX7_ends_14 : decode cX7_ends 14 = .ok (.iload_n 1, 1) := by decide +kernel
theorem dX7_ends_15 : decode cX7_ends 15 = .ok (.iaload, 1) := by decide +kernel
theorem dX7_ends_16 : decode cX7_ends 16 = .ok (.aload_n 0, 1) := by decide +kernel
theorem dX7_ends_17 : decode cX7_ends 17 = .ok (.getfield 96, 3) := by decide +kernel
theorem dX7_ends_20 : decode cX7_ends 20 = .ok (.iload_n 1, 1) := by decide +kernel
theorem dX7_ends_21 : decode cX7_ends 21 = .ok (.iaload, 1) := by decide +kernel
theorem dX7_ends_22 : decode cX7_ends 22 = .ok (.if_icmp .ne 25, 3) := by decide +kernel
theorem dX7_ends_25 : decode cX7_ends 25 = .ok (.aload_n 0, 1) := by decide +kernel
theorem dX7_ends_26 : decode cX7_ends 26 = .ok (.getfield 38, 3) := by decide +kernel
theorem dX7_ends_29 : decode cX7_ends 29 = .ok (.iload_n 1, 1) := by decide +kernel
theorem dX7_ends_30 : decode cX7_ends 30 = .ok (.iaload, 1) := by decide +kernel
theorem dX7_ends_31 : decode cX7_ends 31 = .ok (.sipush 999, 3) := by decide +kernel
theorem dX7_ends_34 : decode cX7_ends 34 = .ok (.if_icmp .ge 13, 3) := by decide +kernel
theorem dX7_ends_37 : decode cX7_ends 37 = .ok (.aload_n 0, 1) := by decide +kernel
theorem dX7_ends_38 : decode cX7_ends 38 = .ok (.getfield 38, 3) := by decide +kernel
theorem dX7_ends_41 : decode cX7_ends 41 = .ok (.iload_n 1, 1) := by decide +kernel
theorem dX7_ends_42 : decode cX7_ends 42 = .ok (.dup2, 1) := by decide +kernel
theorem dX7_ends_43 : decode cX7_ends 43 = .ok (.iaload, 1) := by decide +kernel
theorem dX7_ends_44 : decode cX7_ends 44 = .ok (.iconst 1, 1) := by decide +kernel
theorem dX7_ends_45 : decode cX7_ends 45 = .ok (.iadd, 1) := by decide +kernel
theorem dX7_ends_46 : decode cX7_ends 46 = .ok (.iastore, 1) := by decide +kernel
theorem dX7_ends_47 : decode cX7_ends 47 = .ok (.iinc 1 1, 3) := by decide +kernel
theorem dX7_ends_50 : decode cX7_ends 50 = .ok (.goto (-48), 3) := by decide +kernel
theorem dX7_ends_53 : decode cX7_ends 53 = .ok (.aload_n 0, 1) := by decide +kernel
theorem dX7_ends_54 : decode cX7_ends 54 = .ok (.dup, 1) := by decide +kernel
theorem dX7_ends_55 : decode cX7_ends 55 = .ok (.getfield 198, 3) := by decide +kernel
theorem dX7_ends_58 : decode cX7_ends 58 = .ok (.iconst 1, 1) := by decide +kernel
theorem dX7_ends_59 : decode cX7_ends 59 = .ok (.iadd, 1) := by decide +kernel
theorem dX7_ends_60 : decode cX7_ends 60 = .ok (.putfield 198, 3) := by decide +kernel
theorem dX7_ends_63 : decode cX7_ends 63 = .ok (.return_, 1) := by decide +kernel
theorem dX7_rots_0 : decode cX7_rots 0 = .ok (.iconst 0, 1) := by decide +kernel
theorem dX7_rots_1 : decode cX7_rots 1 = .ok (.istore_n 1, 1) := by decide +kernel
theorem dX7_rots_2 : decode cX7_rots 2 = .ok (.iconst 0, 1) := by decide +kernel
theorem dX7_rots_3 : decode cX7_rots 3 = .ok (.istore_n 2, 1) := by decide +kernel
theorem dX7_rots_4 : decode cX7_rots 4 = .ok (.iload_n 2, 1) := by decide +kernel
theorem dX7_rots_5 : decode cX7_rots 5 = .ok (.aload_n 0, 1) := by decide +kernel
theorem dX7_rots_6 : decode cX7_rots 6 = .ok (.getfield 117, 3) := by decide +kernel
theorem dX7_rots_9 : decode cX7_rots 9 = .ok (.if_icmp .ge 34, 3) := by decide +kernel
theorem dX7_rots_12 : decode cX7_rots 12 = .ok (.aload_n 0, 1) := by decide +kernel
theorem dX7_rots_13 : decode cX7_rots 13 = .ok (.getfield 44, 3) := by decide +kernel
theorem dX7_rots_16 : decode cX7_rots 16 = .ok (.iload_n 2, 1) := by decide +kernel
theorem dX7_rots_17 : decode cX7_rots 17 = .ok (.iaload, 1) := by decide +kernel
theorem dX7_rots_18 : decode cX7_rots 18 = .ok (.iconst 1, 1) := by decide +kernel
theorem dX7_rots_19 : decode cX7_rots 19 = .ok (.iadd, 1) := by decide +kernel
theorem dX7_rots_20 : decode cX7_rots 20 = .ok (.iconst 2, 1) := by decide +kernel
theorem dX7_rots_21 : decode cX7_rots 21 = .ok (.idiv, 1) := by decide +kernel
theorem dX7_rots_22 : decode cX7_rots 22 = .ok (.istore_n 3, 1) := by decide +kernel
theorem dX7_rots_23 : decode cX7_rots 23 = .ok (.aload_n 0, 1) := by decide +kernel
theorem dX7_rots_24 : decode cX7_rots 24 = .ok (.getfield 44, 3) := by decide +kernel
theorem dX7_rots_27 : decode cX7_rots 27 = .ok (.iload_n 2, 1) := by decide +kernel
theorem dX7_rots_28 : decode cX7_rots 28 = .ok (.dup2, 1) := by decide +kernel
theorem dX7_rots_29 : decode cX7_rots 29 = .ok (.iaload, 1) := by decide +kernel
theorem dX7_rots_30 : decode cX7_rots 30 = .ok (.iload_n 3, 1) := by decide +kernel
theorem dX7_rots_31 : decode cX7_rots 31 = .ok (.isub, 1) := by decide +kernel
theorem dX7_rots_32 : decode cX7_rots 32 = .ok (.iastore, 1) := by decide +kernel
theorem dX7_rots_33 : decode cX7_rots 33 = .ok (.iload_n 1, 1) := by decide +kernel
theorem dX7_rots_34 : decode cX7_rots 34 = .ok (.iload_n 3, 1) := by decide +kernel
theorem dX7_rots_35 : decode cX7_rots 35 = .ok (.iadd, 1) := by decide +kernel
theorem dX7_rots_36 : decode cX7_rots 36 = .ok (.istore_n 1, 1) := by decide +kernel
theorem dX7_rots_37 : decode cX7_rots 37 = .ok (.iinc 2 1, 3) := by decide +kernel
theorem dX7_rots_40 : decode cX7_rots 40 = .ok (.goto (-36), 3) := by decide +kernel
theorem dX7_rots_43 : decode cX7_rots 43 = .ok (.iconst 0, 1) := by decide +kernel
theorem dX7_rots_44 : decode cX7_rots 44 = .ok (.istore_n 2, 1) := by decide +kernel
theorem dX7_rots_45 : decode cX7_rots 45 = .ok (.iload_n 2, 1) := by decide +kernel
theorem dX7_rots_46 : decode cX7_rots 46 = .ok (.aload_n 0, 1) := by decide +kernel
theorem dX7_rots_47 : decode cX7_rots 47 = .ok (.getfield 114, 3) := by decide +kernel
theorem dX7_rots_50 : decode cX7_rots 50 = .ok (.if_icmp .ge 23, 3) := by decide +kernel
theorem dX7_rots_53 : decode cX7_rots 53 = .ok (.aload_n 0, 1) := by decide +kernel
theorem dX7_rots_54 : decode cX7_rots 54 = .ok (.getfield 35, 3) := by decide +kernel
theorem dX7_rots_57 : decode cX7_rots 57 = .ok (.iload_n 2, 1) := by decide +kernel
theorem dX7_rots_58 : decode cX7_rots 58 = .ok (.iconst 0, 1) := by decide +kernel
theorem dX7_rots_59 : decode cX7_rots 59 = .ok (.iastore, 1) := by decide +kernel
theorem dX7_rots_60 : decode cX7_rots 60 = .ok (.aload_n 0, 1) := by decide +kernel
theorem dX7_rots_61 : decode cX7_rots 61 = .ok (.getfield 38, 3) := by decide +kernel
theorem dX7_rots_64 : decode cX7_rots 64 = .ok (.iload_n 2, 1) := by decide +kernel
theorem dX7_rots_65 : decode cX7_rots 65 = .ok (.iconst 0, 1) := by decide +kernel
theorem dX7_rots_66 : decode cX7_rots 66 = .ok (.iastore, 1) := by decide +kernel
theorem dX7_rots_67 : decode cX7_rots 67 = .ok (.iinc 2 1, 3) := by decide +kernel
theorem dX7_rots_70 : decode cX7_rots 70 = .ok (.goto (-25), 3) := by decide +kernel
theorem dX7_rots_73 : decode cX7_rots 73 = .ok (.aload_n 0, 1) := by decide +kernel
theorem dX7_rots_74 : decode cX7_rots 74 = .ok (.sipush 999, 3) := by decide +kernel
theorem dX7_rots_77 : decode cX7_rots 77 = .ok (.putfield 13, 3) := by decide +kernel
theorem dX7_rots_80 : decode cX7_rots 80 = .ok (.iload_n 1, 1) := by decide +kernel
theorem dX7_rots_81 : decode cX7_rots 81 = .ok (.ireturn, 1) := by decide +kernel
theorem dX7_may_0 : decode cX7_may 0 = .ok (.aload_n 0, 1) := by decide +kernel
theorem dX7_may_1 : decode cX7_may 1 = .ok (.iload_n 1, 1) := by decide +kernel
theorem dX7_may_2 : decode cX7_may 2 = .ok (.invokevirtual 142, 3) := by decide +kernel
theorem dX7_may_5 : decode cX7_may 5 = .ok (.ifCond .ne 9, 3) := by decide +kernel
theorem dX7_may_8 : decode cX7_may 8 = .ok (.aload_n 0, 1) := by decide +kernel
theorem dX7_may_9 : decode cX7_may 9 = .ok (.iconst (-1), 1) := by decide +kernel
theorem dX7_may_10 : decode cX7_may 10 = .ok (.invokevirtual 124, 3) := by decide +kernel
theorem dX7_may_13 : decode cX7_may 13 = .ok (.ireturn, 1) := by decide +kernel
theorem dX7_may_14 : decode cX7_may 14 = .ok (.iconst 0, 1) := by decide +kernel
theorem dX7_may_15 : decode cX7_may 15 = .ok (.istore_n 2, 1) := by decide +kernel
theorem dX7_may_16 : decode cX7_may 16 = .ok (.iconst 0, 1) := by decide +kernel
theorem dX7_may_17 : decode cX7_may 17 = .ok (.istore_n 3, 1) := by decide +kernel
theorem dX7_may_18 : decode cX7_may 18 = .ok (.iload_n 3, 1) := by decide +kernel
theorem dX7_may_19 : decode cX7_may 19 = .ok (.bipush 16, 2) := by decide +kernel
theorem dX7_may_21 : decode cX7_may 21 = .ok (.if_icmp .ge 24, 3) := by decide +kernel
theorem dX7_may_24 : decode cX7_may 24 = .ok (.aload_n 0, 1) := by decide +kernel
theorem dX7_may_25 : decode cX7_may 25 = .ok (.iload_n 1, 1) := by decide +kernel
theorem dX7_may_26 : decode cX7_may 26 = .ok (.iload_n 3, 1) := by decide +kernel
theorem dX7_may_27 : decode cX7_may 27 = .ok (.invokevirtual 170, 3) := by decide +kernel
theorem dX7_may_30 : decode cX7_may 30 = .ok (.ifCond .eq 9, 3) := by decide +kernel
theorem dX7_may_33 : decode cX7_may 33 = .ok (.iload_n 2, 1) := by decide +kernel
theorem dX7_may_34 : decode cX7_may 34 = .ok (.iconst 1, 1) := by decide +kernel
theorem dX7_may_35 : decode cX7_may 35 = .ok (.iload_n 3, 1) := by decide +kernel
theorem dX7_may_36 : decode cX7_may 36 = .ok (.ishl, 1) := by decide +kernel
theorem dX7_may_37 : decode cX7_may 37 = .ok (.ior, 1) := by decide +kernel
theorem dX7_may_38 : decode cX7_may 38 = .ok (.istore_n 2, 1) := by decide +kernel
theorem dX7_may_39 : decode cX7_may 39 = .ok (.iinc 3 1, 3) := by decide +kernel
theorem dX7_may_42 : decode cX7_may 42 = .ok (.goto (-24), 3) := by decide +kernel
theorem dX7_may_45 : decode cX7_may 45 = .ok (.iload_n 2, 1) := by decide +kernel
theorem dX7_may_46 : decode cX7_may 46 = .ok (.ireturn, 1) := by decide +kernel
theorem dX7_greed_0 : decode cX7_greed 0 = .ok (.iconst (-1), 1) := by decide +kernel
theorem dX7_greed_1 : decode cX7_greed 1 = .ok (.istore_n 3, 1) := by decide +kernel
theorem dX7_greed_2 : decode cX7_greed 2 = .ok (.iconst 0, 1) := by decide +kernel
theorem dX7_greed_3 : decode cX7_greed 3 = .ok (.istore 4, 2) := by decide +kernel
theorem dX7_greed_5 : decode cX7_greed 5 = .ok (.iload 4, 2) := by decide +kernel
theorem dX7_greed_7 : decode cX7_greed 7 = .ok (.aload_n 0, 1) := by decide +kernel
theorem dX7_greed_8 : decode cX7_greed 8 = .ok (.getfield 114, 3) := by decide +kernel
theorem dX7_greed_11 : decode cX7_greed 11 = .ok (.if_icmp .ge 51, 3) := by decide +kernel
theorem dX7_greed_14 : decode cX7_greed 14 = .ok (.aload_n 0, 1) := by decide +kernel
theorem dX7_greed_15 : decode cX7_greed 15 = .ok (.iload_n 1, 1) := by decide +kernel
theorem dX7_greed_16 : decode cX7_greed 16 = .ok (.iload 4, 2) := by decide +kernel
theorem dX7_greed_18 : decode cX7_greed 18 = .ok (.invokevirtual 222, 3) := by decide +kernel
theorem dX7_greed_21 : decode cX7_greed 21 = .ok (.ifCond .eq 35, 3) := by decide +kernel
theorem dX7_greed_24 : decode cX7_greed 24 = .ok (.aload_n 0, 1) := by decide +kernel
theorem dX7_greed_25 : decode cX7_greed 25 = .ok (.iload 4, 2) := by decide +kernel
theorem dX7_greed_27 : decode cX7_greed 27 = .ok (.invokevirtual 131, 3) := by decide +kernel
theorem dX7_greed_30 : decode cX7_greed 30 = .ok (.iload_n 2, 1) := by decide +kernel
theorem dX7_greed_31 : decode cX7_greed 31 = .ok (.if_icmp .gt 25, 3) := by decide +kernel
theorem dX7_greed_34 : decode cX7_greed 34 = .ok (.iload_n 3, 1) := by decide +kernel
theorem dX7_greed_35 : decode cX7_greed 35 = .ok (.iconst (-1), 1) := by decide +kernel
theorem dX7_greed_36 : decode cX7_greed 36 = .ok (.if_icmp .eq 17, 3) := by decide +kernel
theorem dX7_greed_39 : decode cX7_greed 39 = .ok (.aload_n 0, 1) := by decide +kernel
theorem dX7_greed_40 : decode cX7_greed 40 = .ok (.iload 4, 2) := by decide +kernel
theorem dX7_greed_42 : decode cX7_greed 42 = .ok (.invokevirtual 131, 3) := by decide +kernel
theorem dX7_greed_45 : decode cX7_greed 45 = .ok (.aload_n 0, 1) := by decide +kernel
theorem dX7_greed_46 : decode cX7_greed 46 = .ok (.iload_n 3, 1) := by decide +kernel
theorem dX7_greed_47 : decode cX7_greed 47 = .ok (.invokevirtual 131, 3) := by decide +kernel
theorem dX7_greed_50 : decode cX7_greed 50 = .ok (.if_icmp .ge 6, 3) := by decide +kernel
theorem dX7_greed_53 : decode cX7_greed 53 = .ok (.iload 4, 2) := by decide +kernel
theorem dX7_greed_55 : decode cX7_greed 55 = .ok (.istore_n 3, 1) := by decide +kernel
theorem dX7_greed_56 : decode cX7_greed 56 = .ok (.iinc 4 1, 3) := by decide +kernel
theorem dX7_greed_59 : decode cX7_greed 59 = .ok (.goto (-54), 3) := by decide +kernel
theorem dX7_greed_62 : decode cX7_greed 62 = .ok (.iload_n 3, 1) := by decide +kernel
theorem dX7_greed_63 : decode cX7_greed 63 = .ok (.iconst (-1), 1) := by decide +kernel
theorem dX7_greed_64 : decode cX7_greed 64 = .ok (.if_icmp .eq 10, 3) := by decide +kernel
theorem dX7_greed_67 : decode cX7_greed 67 = .ok (.bipush 10, 2) := by decide +kernel
theorem dX7_greed_69 : decode cX7_greed 69 = .ok (.iload_n 3, 1) := by decide +kernel
theorem dX7_greed_70 : decode cX7_greed 70 = .ok (.iadd, 1) := by decide +kernel
theorem dX7_greed_71 : decode cX7_greed 71 = .ok (.goto 15, 3) := by decide +kernel
theorem dX7_greed_74 : decode cX7_greed 74 = .ok (.aload_n 0, 1) := by decide +kernel
theorem dX7_greed_75 : decode cX7_greed 75 = .ok (.getfield 13, 3) := by decide +kernel
theorem dX7_greed_78 : decode cX7_greed 78 = .ok (.ifCond .le 7, 3) := by decide +kernel
theorem dX7_greed_81 : decode cX7_greed 81 = .ok (.iconst 1, 1) := by decide +kernel
theorem dX7_greed_82 : decode cX7_greed 82 = .ok (.goto 4, 3) := by decide +kernel
theorem dX7_greed_85 : decode cX7_greed 85 = .ok (.iconst 0, 1) := by decide +kernel
theorem dX7_greed_86 : decode cX7_greed 86 = .ok (.ireturn, 1) := by decide +kernel
theorem dX7_ruled_0 : decode cX7_ruled 0 = .ok (.iload_n 1, 1) := by decide +kernel
theorem dX7_ruled_1 : decode cX7_ruled 1 = .ok (.iconst 1, 1) := by decide +kernel
theorem dX7_ruled_2 : decode cX7_ruled 2 = .ok (.if_icmp .ne 18, 3) := by decide +kernel
theorem dX7_ruled_5 : decode cX7_ruled 5 = .ok (.aload_n 0, 1) := by decide +kernel
theorem dX7_ruled_6 : decode cX7_ruled 6 = .ok (.getfield 44, 3) := by decide +kernel
theorem dX7_ruled_9 : decode cX7_ruled 9 = .ok (.iload_n 2, 1) := by decide +kernel
theorem dX7_ruled_10 : decode cX7_ruled 10 = .ok (.iaload, 1) := by decide +kernel
theorem dX7_ruled_11 : decode cX7_ruled 11 = .ok (.bipush 50, 2) := by decide +kernel
theorem dX7_ruled_13 : decode cX7_ruled 13 = .ok (.if_icmp .ge 7, 3) := by decide +kernel
theorem dX7_ruled_16 : decode cX7_ruled 16 = .ok (.iconst 1, 1) := by decide +kernel
theorem dX7_ruled_17 : decode cX7_ruled 17 = .ok (.goto 52, 3) := by decide +kernel
theorem dX7_ruled_20 : decode cX7_ruled 20 = .ok (.iload_n 1, 1) := by decide +kernel
theorem dX7_ruled_21 : decode cX7_ruled 21 = .ok (.iconst 2, 1) := by decide +kernel
theorem dX7_ruled_22 : decode cX7_ruled 22 = .ok (.if_icmp .ne 22, 3) := by decide +kernel
theorem dX7_ruled_25 : decode cX7_ruled 25 = .ok (.aload_n 0, 1) := by decide +kernel
theorem dX7_ruled_26 : decode cX7_ruled 26 = .ok (.getfield 44, 3) := by decide +kernel
theorem dX7_ruled_29 : decode cX7_ruled 29 = .ok (.iload_n 2, 1) := by decide +kernel
theorem dX7_ruled_30 : decode cX7_ruled 30 = .ok (.iaload, 1) := by decide +kernel
theorem dX7_ruled_31 : decode cX7_ruled 31 = .ok (.aload_n 0, 1) := by decide +kernel
theorem dX7_ruled_32 : decode cX7_ruled 32 = .ok (.getfield 47, 3) := by decide +kernel
theorem dX7_ruled_35 : decode cX7_ruled 35 = .ok (.iload_n 2, 1) := by decide +kernel
theorem dX7_ruled_36 : decode cX7_ruled 36 = .ok (.iaload, 1) := by decide +kernel
theorem dX7_ruled_37 : decode cX7_ruled 37 = .ok (.if_icmp .le 7, 3) := by decide +kernel
theorem dX7_ruled_40 : decode cX7_ruled 40 = .ok (.iconst 2, 1) := by decide +kernel
theorem dX7_ruled_41 : decode cX7_ruled 41 = .ok (.goto 28, 3) := by decide +kernel
theorem dX7_ruled_44 : decode cX7_ruled 44 = .ok (.aload_n 0, 1) := by decide +kernel
theorem dX7_ruled_45 : decode cX7_ruled 45 = .ok (.iload_n 2, 1) := by decide +kernel
theorem dX7_ruled_46 : decode cX7_ruled 46 = .ok (.iload_n 1, 1) := by decide +kernel
theorem dX7_ruled_47 : decode cX7_ruled 47 = .ok (.iconst 3, 1) := by decide +kernel
theorem dX7_ruled_48 : decode cX7_ruled 48 = .ok (.if_icmp .ne 15, 3) := by decide +kernel
theorem dX7_ruled_51 : decode cX7_ruled 51 = .ok (.bipush 10, 2) := by decide +kernel
theorem dX7_ruled_53 : decode cX7_ruled 53 = .ok (.aload_n 0, 1) := by decide +kernel
theorem dX7_ruled_54 : decode cX7_ruled 54 = .ok (.getfield 41, 3) := by decide +kernel
theorem dX7_ruled_57 : decode cX7_ruled 57 = .ok (.iload_n 2, 1) := by decide +kernel
theorem dX7_ruled_58 : decode cX7_ruled 58 = .ok (.iaload, 1) := by decide +kernel
theorem dX7_ruled_59 : decode cX7_ruled 59 = .ok (.imul, 1) := by decide +kernel
theorem dX7_ruled_60 : decode cX7_ruled 60 = .ok (.goto 6, 3) := by decide +kernel
theorem dX7_ruled_63 : decode cX7_ruled 63 = .ok (.sipush 9999, 3) := by decide +kernel
theorem dX7_ruled_66 : decode cX7_ruled 66 = .ok (.invokevirtual 231, 3) := by decide +kernel
theorem dX7_ruled_69 : decode cX7_ruled 69 = .ok (.istore_n 3, 1) := by decide +kernel
theorem dX7_ruled_70 : decode cX7_ruled 70 = .ok (.aload_n 0, 1) := by decide +kernel
theorem dX7_ruled_71 : decode cX7_ruled 71 = .ok (.iload_n 2, 1) := by decide +kernel
theorem dX7_ruled_72 : decode cX7_ruled 72 = .ok (.iload_n 3, 1) := by decide +kernel
theorem dX7_ruled_73 : decode cX7_ruled 73 = .ok (.invokevirtual 170, 3) := by decide +kernel
theorem dX7_ruled_76 : decode cX7_ruled 76 = .ok (.ifCond .eq 7, 3) := by decide +kernel
theorem dX7_ruled_79 : decode cX7_ruled 79 = .ok (.iload_n 3, 1) := by decide +kernel
theorem dX7_ruled_80 : decode cX7_ruled 80 = .ok (.goto 4, 3) := by decide +kernel
theorem dX7_ruled_83 : decode cX7_ruled 83 = .ok (.iconst 0, 1) := by decide +kernel
theorem dX7_ruled_84 : decode cX7_ruled 84 = .ok (.ireturn, 1) := by decide +kernel
theorem dX7_lives_0 : decode cX7_lives 0 = .ok (.aload_n 0, 1) := by decide +kernel
theorem dX7_lives_1 : decode cX7_lives 1 = .ok (.invokevirtual 234, 3) := by decide +kernel
theorem dX7_lives_4 : decode cX7_lives 4 = .ok (.iconst 0, 1) := by decide +kernel
theorem dX7_lives_5 : decode cX7_lives 5 = .ok (.istore_n 2, 1) := by decide +kernel
theorem dX7_lives_6 : decode cX7_lives 6 = .ok (.iload_n 2, 1) := by decide +kernel
theorem dX7_lives_7 : decode cX7_lives 7 = .ok (.aload_n 0, 1) := by decide +kernel
theorem dX7_lives_8 : decode cX7_lives 8 = .ok (.getfield 117, 3) := by decide +kernel
theorem dX7_lives_11 : decode cX7_lives 11 = .ok (.if_icmp .ge 20, 3) := by decide +kernel
theorem dX7_lives_14 : decode cX7_lives 14 = .ok (.aload_n 0, 1) := by decide +kernel
theorem dX7_lives_15 : decode cX7_lives 15 = .ok (.iload_n 2, 1) := by decide +kernel
theorem dX7_lives_16 : decode cX7_lives 16 = .ok (.aload_n 0, 1) := by decide +kernel
theorem dX7_lives_17 : decode cX7_lives 17 = .ok (.iload_n 1, 1) := by decide +kernel
theorem dX7_lives_18 : decode cX7_lives 18 = .ok (.iload_n 2, 1) := by decide +kernel
theorem dX7_lives_19 : decode cX7_lives 19 = .ok (.invokevirtual 237, 3) := by decide +kernel
theorem dX7_lives_22 : decode cX7_lives 22 = .ok (.invokevirtual 187, 3) := by decide +kernel
theorem dX7_lives_25 : decode cX7_lives 25 = .ok (.iinc 2 1, 3) := by decide +kernel
theorem dX7_lives_28 : decode cX7_lives 28 = .ok (.goto (-22), 3) := by decide +kernel
theorem dX7_lives_31 : decode cX7_lives 31 = .ok (.aload_n 0, 1) := by decide +kernel
theorem dX7_lives_32 : decode cX7_lives 32 = .ok (.invokevirtual 240, 3) := by decide +kernel
theorem dX7_lives_35 : decode cX7_lives 35 = .ok (.return_, 1) := by decide +kernel
theorem dX7_livesOn_0 : decode cX7_livesOn 0 = .ok (.iconst 0, 1) := by decide +kernel
theorem dX7_livesOn_1 : decode cX7_livesOn 1 = .ok (.istore_n 3, 1) := by decide +kernel
theorem dX7_livesOn_2 : decode cX7_livesOn 2 = .ok (.iload_n 3, 1) := by decide +kernel
theorem dX7_livesOn_3 : decode cX7_livesOn 3 = .ok (.iload_n 2, 1) := by decide +kernel
theorem dX7_livesOn_4 : decode cX7_livesOn 4 = .ok (.if_icmp .ge 14, 3) := by decide +kernel
theorem dX7_livesOn_7 : decode cX7_livesOn 7 = .ok (.aload_n 0, 1) := by decide +kernel
theorem dX7_livesOn_8 : decode cX7_livesOn 8 = .ok (.iload_n 1, 1) := by decide +kernel
theorem dX7_livesOn_9 : decode cX7_livesOn 9 = .ok (.invokevirtual 243, 3) := by decide +kernel
theorem dX7_livesOn_12 : decode cX7_livesOn 12 = .ok (.iinc 3 1, 3) := by decide +kernel
theorem dX7_livesOn_15 : decode cX7_livesOn 15 = .ok (.goto (-13), 3) := by decide +kernel
theorem dX7_livesOn_18 : decode cX7_livesOn 18 = .ok (.return_, 1) := by decide +kernel
theorem dX7_isRule_0 : decode cX7_isRule 0 = .ok (.iload_n 1, 1) := by decide +kernel
theorem dX7_isRule_1 : decode cX7_isRule 1 = .ok (.ifCond .lt 12, 3) := by decide +kernel
theorem dX7_isRule_4 : decode cX7_isRule 4 = .ok (.iload_n 1, 1) := by decide +kernel
theorem dX7_isRule_5 : decode cX7_isRule 5 = .ok (.iconst 3, 1) := by decide +kernel
theorem dX7_isRule_6 : decode cX7_isRule 6 = .ok (.if_icmp .gt 7, 3) := by decide +kernel
theorem dX7_isRule_9 : decode cX7_isRule 9 = .ok (.iconst 1, 1) := by decide +kernel
theorem dX7_isRule_10 : decode cX7_isRule 10 = .ok (.goto 4, 3) := by decide +kernel
theorem dX7_isRule_13 : decode cX7_isRule 13 = .ok (.iconst 0, 1) := by decide +kernel
theorem dX7_isRule_14 : decode cX7_isRule 14 = .ok (.ireturn, 1) := by decide +kernel
theorem dX7_isAfternoon_0 : decode cX7_isAfternoon 0 = .ok (.aload_n 0, 1) := by decide +kernel
theorem dX7_isAfternoon_1 : decode cX7_isAfternoon 1 = .ok (.iload_n 1, 1) := by decide +kernel
theorem dX7_isAfternoon_2 : decode cX7_isAfternoon 2 = .ok (.invokevirtual 247, 3) := by decide +kernel
theorem dX7_isAfternoon_5 : decode cX7_isAfternoon 5 = .ok (.ifCond .eq 18, 3) := by decide +kernel
theorem dX7_isAfternoon_8 : decode cX7_isAfternoon 8 = .ok (.iload_n 2, 1) := by decide +kernel
theorem dX7_isAfternoon_9 : decode cX7_isAfternoon 9 = .ok (.ifCond .lt 14, 3) := by decide +kernel
theorem dX7_isAfternoon_12 : decode cX7_isAfternoon 12 = .ok (.iload_n 2, 1) := by decide +kernel
theorem dX7_isAfternoon_13 : decode cX7_isAfternoon 13 = .ok (.sipush 240, 3) := by decide +kernel
theorem dX7_isAfternoon_16 : decode cX7_isAfternoon 16 = .ok (.if_icmp .gt 7, 3) := by decide +kernel
theorem dX7_isAfternoon_19 : decode cX7_isAfternoon 19 = .ok (.iconst 1, 1) := by decide +kernel
theorem dX7_isAfternoon_20 : decode cX7_isAfternoon 20 = .ok (.goto 4, 3) := by decide +kernel
theorem dX7_isAfternoon_23 : decode cX7_isAfternoon 23 = .ok (.iconst 0, 1) := by decide +kernel
theorem dX7_isAfternoon_24 : decode cX7_isAfternoon 24 = .ok (.ireturn, 1) := by decide +kernel
theorem dX7_tries_0 : decode cX7_tries 0 = .ok (.aload_n 0, 1) := by decide +kernel
theorem dX7_tries_1 : decode cX7_tries 1 = .ok (.aload_n 0, 1) := by decide +kernel
theorem dX7_tries_2 : decode cX7_tries 2 = .ok (.getfield 93, 3) := by decide +kernel
theorem dX7_tries_5 : decode cX7_tries 5 = .ok (.iconst 0, 1) := by decide +kernel
theorem dX7_tries_6 : decode cX7_tries 6 = .ok (.invokevirtual 210, 3) := by decide +kernel
theorem dX7_tries_9 : decode cX7_tries 9 = .ok (.aload_n 0, 1) := by decide +kernel
theorem dX7_tries_10 : decode cX7_tries 10 = .ok (.getfield 204, 3) := by decide +kernel
theorem dX7_tries_13 : decode cX7_tries 13 = .ok (.istore_n 3, 1) := by decide +kernel
theorem dX7_tries_14 : decode cX7_tries 14 = .ok (.aload_n 0, 1) := by decide +kernel
theorem dX7_tries_15 : decode cX7_tries 15 = .ok (.iload_n 1, 1) := by decide +kernel
theorem dX7_tries_16 : decode cX7_tries 16 = .ok (.iload_n 2, 1) := by decide +kernel
theorem dX7_tries_17 : decode cX7_tries 17 = .ok (.invokevirtual 250, 3) := by decide +kernel
theorem dX7_tries_20 : decode cX7_tries 20 = .ok (.aload_n 0, 1) := by decide +kernel
theorem dX7_tries_21 : decode cX7_tries 21 = .ok (.aload_n 0, 1) := by decide +kernel
theorem dX7_tries_22 : decode cX7_tries 22 = .ok (.getfield 204, 3) := by decide +kernel
theorem dX7_tries_25 : decode cX7_tries 25 = .ok (.iload_n 3, 1) := by decide +kernel
theorem dX7_tries_26 : decode cX7_tries 26 = .ok (.isub, 1) := by decide +kernel
theorem dX7_tries_27 : decode cX7_tries 27 = .ok (.putfield 253, 3) := by decide +kernel
theorem dX7_tries_30 : decode cX7_tries 30 = .ok (.return_, 1) := by decide +kernel
theorem dX7_takesBack_0 : decode cX7_takesBack 0 = .ok (.aload_n 0, 1) := by decide +kernel
theorem dX7_takesBack_1 : decode cX7_takesBack 1 = .ok (.aload_n 0, 1) := by decide +kernel
theorem dX7_takesBack_2 : decode cX7_takesBack 2 = .ok (.getfield 93, 3) := by decide +kernel
theorem dX7_takesBack_5 : decode cX7_takesBack 5 = .ok (.iconst 1, 1) := by decide +kernel
theorem dX7_takesBack_6 : decode cX7_takesBack 6 = .ok (.invokevirtual 210, 3) := by decide +kernel
theorem dX7_takesBack_9 : decode cX7_takesBack 9 = .ok (.return_, 1) := by decide +kernel
theorem dX7_behind_0 : decode cX7_behind 0 = .ok (.aload_n 0, 1) := by decide +kernel
theorem dX7_behind_1 : decode cX7_behind 1 = .ok (.iload_n 3, 1) := by decide +kernel
theorem dX7_behind_2 : decode cX7_behind 2 = .ok (.invokevirtual 142, 3) := by decide +kernel
theorem dX7_behind_5 : decode cX7_behind 5 = .ok (.ifCond .ne 9, 3) := by decide +kernel
theorem dX7_behind_8 : decode cX7_behind 8 = .ok (.aload_n 0, 1) := by decide +kernel
theorem dX7_behind_9 : decode cX7_behind 9 = .ok (.iconst (-1), 1) := by decide +kernel
theorem dX7_behind_10 : decode cX7_behind 10 = .ok (.invokevirtual 124, 3) := by decide +kernel
theorem dX7_behind_13 : decode cX7_behind 13 = .ok (.ireturn, 1) := by decide +kernel
theorem dX7_behind_14 : decode cX7_behind 14 = .ok (.iload 4, 2) := by decide +kernel
theorem dX7_behind_16 : decode cX7_behind 16 = .ok (.iconst 1, 1) := by decide +kernel
theorem dX7_behind_17 : decode cX7_behind 17 = .ok (.if_icmp .eq 22, 3) := by decide +kernel
theorem dX7_behind_20 : decode cX7_behind 20 = .ok (.iload 4, 2) := by decide +kernel
theorem dX7_behind_22 : decode cX7_behind 22 = .ok (.iconst 2, 1) := by decide +kernel
theorem dX7_behind_23 : decode cX7_behind 23 = .ok (.if_icmp .eq 16, 3) := by decide +kernel
theorem dX7_behind_26 : decode cX7_behind 26 = .ok (.iload 4, 2) := by decide +kernel
theorem dX7_behind_28 : decode cX7_behind 28 = .ok (.iconst 4, 1) := by decide +kernel
theorem dX7_behind_29 : decode cX7_behind 29 = .ok (.if_icmp .eq 10, 3) := by decide +kernel
theorem dX7_behind_32 : decode cX7_behind 32 = .ok (.aload_n 0, 1) := by decide +kernel
theorem dX7_behind_33 : decode cX7_behind 33 = .ok (.bipush (-5), 2) := by decide +kernel
theorem dX7_behind_35 : decode cX7_behind 35 = .ok (.invokevirtual 124, 3) := by decide +kernel
theorem dX7_behind_38 : decode cX7_behind 38 = .ok (.ireturn, 1) := by decide +kernel
theorem dX7_behind_39 : decode cX7_behind 39 = .ok (.aload_n 0, 1) := by decide +kernel
theorem dX7_behind_40 : decode cX7_behind 40 = .ok (.iload_n 1, 1) := by decide +kernel
theorem dX7_behind_41 : decode cX7_behind 41 = .ok (.iload_n 2, 1) := by decide +kernel
theorem dX7_behind_42 : decode cX7_behind 42 = .ok (.invokevirtual 256, 3) := by decide +kernel
theorem dX7_behind_45 : decode cX7_behind 45 = .ok (.ifCond .ne 10, 3) := by decide +kernel
theorem dX7_behind_48 : decode cX7_behind 48 = .ok (.aload_n 0, 1) := by decide +kernel
theorem dX7_behind_49 : decode cX7_behind 49 = .ok (.bipush (-6), 2) := by decide +kernel
theorem dX7_behind_51 : decode cX7_behind 51 = .ok (.invokevirtual 124, 3) := by decide +kernel
theorem dX7_behind_54 : decode cX7_behind 54 = .ok (.ireturn, 1) := by decide +kernel
theorem dX7_behind_55 : decode cX7_behind 55 = .ok (.aload_n 0, 1) := by decide +kernel
theorem dX7_behind_56 : decode cX7_behind 56 = .ok (.iload_n 1, 1) := by decide +kernel
theorem dX7_behind_57 : decode cX7_behind 57 = .ok (.iload_n 2, 1) := by decide +kernel
theorem dX7_behind_58 : decode cX7_behind 58 = .ok (.invokevirtual 259, 3) := by decide +kernel
theorem dX7_behind_61 : decode cX7_behind 61 = .ok (.iload 4, 2) := by decide +kernel
theorem dX7_behind_63 : decode cX7_behind 63 = .ok (.iconst 1, 1) := by decide +kernel
theorem dX7_behind_64 : decode cX7_behind 64 = .ok (.if_icmp .ne 12, 3) := by decide +kernel
theorem dX7_behind_67 : decode cX7_behind 67 = .ok (.aload_n 0, 1) := by decide +kernel
theorem dX7_behind_68 : decode cX7_behind 68 = .ok (.getfield 44, 3) := by decide +kernel
theorem dX7_behind_71 : decode cX7_behind 71 = .ok (.iload_n 3, 1) := by decide +kernel
theorem dX7_behind_72 : decode cX7_behind 72 = .ok (.iaload, 1) := by decide +kernel
theorem dX7_behind_73 : decode cX7_behind 73 = .ok (.goto 24, 3) := by decide +kernel
theorem dX7_behind_76 : decode cX7_behind 76 = .ok (.iload 4, 2) := by decide +kernel
theorem dX7_behind_78 : decode cX7_behind 78 = .ok (.iconst 2, 1) := by decide +kernel
theorem dX7_behind_79 : decode cX7_behind 79 = .ok (.if_icmp .ne 12, 3) := by decide +kernel
theorem dX7_behind_82 : decode cX7_behind 82 = .ok (.aload_n 0, 1) := by decide +kernel
theorem dX7_behind_83 : decode cX7_behind 83 = .ok (.getfield 47, 3) := by decide +kernel
theorem dX7_behind_86 : decode cX7_behind 86 = .ok (.iload_n 3, 1) := by decide +kernel
theorem dX7_behind_87 : decode cX7_behind 87 = .ok (.iaload, 1) := by decide +kernel
theorem dX7_behind_88 : decode cX7_behind 88 = .ok (.goto 9, 3) := by decide +kernel
theorem dX7_behind_91 : decode cX7_behind 91 = .ok (.aload_n 0, 1) := by decide +kernel
theorem dX7_behind_92 : decode cX7_behind 92 = .ok (.getfield 53, 3) := by decide +kernel
theorem dX7_behind_95 : decode cX7_behind 95 = .ok (.iload_n 3, 1) := by decide +kernel
theorem dX7_behind_96 : decode cX7_behind 96 = .ok (.iaload, 1) := by decide +kernel
theorem dX7_behind_97 : decode cX7_behind 97 = .ok (.istore 5, 2) := by decide +kernel
theorem dX7_behind_99 : decode cX7_behind 99 = .ok (.aload_n 0, 1) := by decide +kernel
theorem dX7_behind_100 : decode cX7_behind 100 = .ok (.invokevirtual 262, 3) := by decide +kernel
theorem dX7_behind_103 : decode cX7_behind 103 = .ok (.iload 5, 2) := by decide +kernel
theorem dX7_behind_105 : decode cX7_behind 105 = .ok (.ireturn, 1) := by decide +kernel
theorem dX7_askedBehind_0 : decode cX7_askedBehind 0 = .ok (.aload_n 0, 1) := by decide +kernel
theorem dX7_askedBehind_1 : decode cX7_askedBehind 1 = .ok (.iload_n 1, 1) := by decide +kernel
theorem dX7_askedBehind_2 : decode cX7_askedBehind 2 = .ok (.iload_n 2, 1) := by decide +kernel
theorem dX7_askedBehind_3 : decode cX7_askedBehind 3 = .ok (.invokevirtual 259, 3) := by decide +kernel
theorem dX7_askedBehind_6 : decode cX7_askedBehind 6 = .ok (.aload_n 0, 1) := by decide +kernel
theorem dX7_askedBehind_7 : decode cX7_askedBehind 7 = .ok (.iload_n 3, 1) := by decide +kernel
theorem dX7_askedBehind_8 : decode cX7_askedBehind 8 = .ok (.invokevirtual 131, 3) := by decide +kernel
theorem dX7_askedBehind_11 : decode cX7_askedBehind 11 = .ok (.istore 4, 2) := by decide +kernel
theorem dX7_askedBehind_13 : decode cX7_askedBehind 13 = .ok (.aload_n 0, 1) := by decide +kernel
theorem dX7_askedBehind_14 : decode cX7_askedBehind 14 = .ok (.invokevirtual 262, 3) := by decide +kernel
theorem dX7_askedBehind_17 : decode cX7_askedBehind 17 = .ok (.iload 4, 2) := by decide +kernel
theorem dX7_askedBehind_19 : decode cX7_askedBehind 19 = .ok (.ireturn, 1) := by decide +kernel
theorem dX7_asks_0 : decode cX7_asks 0 = .ok (.aload_n 0, 1) := by decide +kernel
theorem dX7_asks_1 : decode cX7_asks 1 = .ok (.iload_n 3, 1) := by decide +kernel
theorem dX7_asks_2 : decode cX7_asks 2 = .ok (.invokevirtual 128, 3) := by decide +kernel
theorem dX7_asks_5 : decode cX7_asks 5 = .ok (.ifCond .ne 9, 3) := by decide +kernel
theorem dX7_asks_8 : decode cX7_asks 8 = .ok (.aload_n 0, 1) := by decide +kernel
theorem dX7_asks_9 : decode cX7_asks 9 = .ok (.iconst (-1), 1) := by decide +kernel
theorem dX7_asks_10 : decode cX7_asks 10 = .ok (.invokevirtual 124, 3) := by decide +kernel
theorem dX7_asks_13 : decode cX7_asks 13 = .ok (.ireturn, 1) := by decide +kernel
theorem dX7_asks_14 : decode cX7_asks 14 = .ok (.aload_n 0, 1) := by decide +kernel
theorem dX7_asks_15 : decode cX7_asks 15 = .ok (.iload_n 1, 1) := by decide +kernel
theorem dX7_asks_16 : decode cX7_asks 16 = .ok (.iload_n 2, 1) := by decide +kernel
theorem dX7_asks_17 : decode cX7_asks 17 = .ok (.invokevirtual 256, 3) := by decide +kernel
theorem dX7_asks_20 : decode cX7_asks 20 = .ok (.ifCond .eq 13, 3) := by decide +kernel
theorem dX7_asks_23 : decode cX7_asks 23 = .ok (.aload_n 0, 1) := by decide +kernel
theorem dX7_asks_24 : decode cX7_asks 24 = .ok (.iload_n 1, 1) := by decide +kernel
theorem dX7_asks_25 : decode cX7_asks 25 = .ok (.iload_n 2, 1) := by decide +kernel
theorem dX7_asks_26 : decode cX7_asks 26 = .ok (.iload_n 3, 1) := by decide +kernel
theorem dX7_asks_27 : decode cX7_asks 27 = .ok (.invokevirtual 265, 3) := by decide +kernel
theorem dX7_asks_30 : decode cX7_asks 30 = .ok (.goto 9, 3) := by decide +kernel
theorem dX7_asks_33 : decode cX7_asks 33 = .ok (.aload_n 0, 1) := by decide +kernel
theorem dX7_asks_34 : decode cX7_asks 34 = .ok (.bipush (-6), 2) := by decide +kernel
theorem dX7_asks_36 : decode cX7_asks 36 = .ok (.invokevirtual 124, 3) := by decide +kernel
theorem dX7_asks_39 : decode cX7_asks 39 = .ok (.ireturn, 1) := by decide +kernel
theorem dX7_deals_0 : decode cX7_deals 0 = .ok (.iload_n 3, 1) := by decide +kernel
theorem dX7_deals_1 : decode cX7_deals 1 = .ok (.ifCond .lt 8, 3) := by decide +kernel
theorem dX7_deals_4 : decode cX7_deals 4 = .ok (.iload_n 3, 1) := by decide +kernel
theorem dX7_deals_5 : decode cX7_deals 5 = .ok (.iconst 1, 1) := by decide +kernel
theorem dX7_deals_6 : decode cX7_deals 6 = .ok (.if_icmp .le 10, 3) := by decide +kernel
theorem dX7_deals_9 : decode cX7_deals 9 = .ok (.aload_n 0, 1) := by decide +kernel
theorem dX7_deals_10 : decode cX7_deals 10 = .ok (.bipush (-5), 2) := by decide +kernel
theorem dX7_deals_12 : decode cX7_deals 12 = .ok (.invokevirtual 124, 3) := by decide +kernel
theorem dX7_deals_15 : decode cX7_deals 15 = .ok (.ireturn, 1) := by decide +kernel
theorem dX7_deals_16 : decode cX7_deals 16 = .ok (.aload_n 0, 1) := by decide +kernel
theorem dX7_deals_17 : decode cX7_deals 17 = .ok (.iload_n 1, 1) := by decide +kernel
theorem dX7_deals_18 : decode cX7_deals 18 = .ok (.iload_n 2, 1) := by decide +kernel
theorem dX7_deals_19 : decode cX7_deals 19 = .ok (.invokevirtual 256, 3) := by decide +kernel
theorem dX7_deals_22 : decode cX7_deals 22 = .ok (.ifCond .ne 10, 3) := by decide +kernel
theorem dX7_deals_25 : decode cX7_deals 25 = .ok (.aload_n 0, 1) := by decide +kernel
theorem dX7_deals_26 : decode cX7_deals 26 = .ok (.bipush (-6), 2) := by decide +kernel
theorem dX7_deals_28 : decode cX7_deals 28 = .ok (.invokevirtual 124, 3) := by decide +kernel
theorem dX7_deals_31 : decode cX7_deals 31 = .ok (.ireturn, 1) := by decide +kernel
theorem dX7_deals_32 : decode cX7_deals 32 = .ok (.aload_n 0, 1) := by decide +kernel
theorem dX7_deals_33 : decode cX7_deals 33 = .ok (.iload_n 1, 1) := by decide +kernel
theorem dX7_deals_34 : decode cX7_deals 34 = .ok (.iload_n 2, 1) := by decide +kernel
theorem dX7_deals_35 : decode cX7_deals 35 = .ok (.invokevirtual 259, 3) := by decide +kernel
theorem dX7_deals_38 : decode cX7_deals 38 = .ok (.iload_n 3, 1) := by decide +kernel
theorem dX7_deals_39 : decode cX7_deals 39 = .ok (.ifCond .ne 10, 3) := by decide +kernel
theorem dX7_deals_42 : decode cX7_deals 42 = .ok (.aload_n 0, 1) := by decide +kernel
theorem dX7_deals_43 : decode cX7_deals 43 = .ok (.getfield 253, 3) := by decide +kernel
theorem dX7_deals_46 : decode cX7_deals 46 = .ok (.goto 7, 3) := by decide +kernel
theorem dX7_deals_49 : decode cX7_deals 49 = .ok (.aload_n 0, 1) := by decide +kernel
theorem dX7_deals_50 : decode cX7_deals 50 = .ok (.getfield 201, 3) := by decide +kernel
theorem dX7_deals_53 : decode cX7_deals 53 = .ok (.istore 4, 2) := by decide +kernel
theorem dX7_deals_55 : decode cX7_deals 55 = .ok (.aload_n 0, 1) := by decide +kernel
theorem dX7_deals_56 : decode cX7_deals 56 = .ok (.invokevirtual 262, 3) := by decide +kernel
theorem dX7_deals_59 : decode cX7_deals 59 = .ok (.iload 4, 2) := by decide +kernel
theorem dX7_deals_61 : decode cX7_deals 61 = .ok (.ireturn, 1) := by decide +kernel
theorem dX7_runs_0 : decode cX7_runs 0 = .ok (.aload_n 0, 1) := by decide +kernel
theorem dX7_runs_1 : decode cX7_runs 1 = .ok (.iload_n 3, 1) := by decide +kernel
theorem dX7_runs_2 : decode cX7_runs 2 = .ok (.invokevirtual 128, 3) := by decide +kernel
theorem dX7_runs_5 : decode cX7_runs 5 = .ok (.ifCond .ne 9, 3) := by decide +kernel
theorem dX7_runs_8 : decode cX7_runs 8 = .ok (.aload_n 0, 1) := by decide +kernel
theorem dX7_runs_9 : decode cX7_runs 9 = .ok (.iconst (-1), 1) := by decide +kernel
theorem dX7_runs_10 : decode cX7_runs 10 = .ok (.invokevirtual 145, 3) := by decide +kernel
theorem dX7_runs_13 : decode cX7_runs 13 = .ok (.ireturn, 1) := by decide +kernel
theorem dX7_runs_14 : decode cX7_runs 14 = .ok (.aload_n 0, 1) := by decide +kernel
theorem dX7_runs_15 : decode cX7_runs 15 = .ok (.iload_n 1, 1) := by decide +kernel
theorem dX7_runs_16 : decode cX7_runs 16 = .ok (.iload_n 2, 1) := by decide +kernel
theorem dX7_runs_17 : decode cX7_runs 17 = .ok (.invokevirtual 256, 3) := by decide +kernel
theorem dX7_runs_20 : decode cX7_runs 20 = .ok (.ifCond .ne 10, 3) := by decide +kernel
theorem dX7_runs_23 : decode cX7_runs 23 = .ok (.aload_n 0, 1) := by decide +kernel
theorem dX7_runs_24 : decode cX7_runs 24 = .ok (.bipush (-6), 2) := by decide +kernel
theorem dX7_runs_26 : decode cX7_runs 26 = .ok (.invokevirtual 145, 3) := by decide +kernel
theorem dX7_runs_29 : decode cX7_runs 29 = .ok (.ireturn, 1) := by decide +kernel
theorem dX7_runs_30 : decode cX7_runs 30 = .ok (.aload_n 0, 1) := by decide +kernel
theorem dX7_runs_31 : decode cX7_runs 31 = .ok (.iload_n 3, 1) := by decide +kernel
theorem dX7_runs_32 : decode cX7_runs 32 = .ok (.invokevirtual 131, 3) := by decide +kernel
theorem dX7_runs_35 : decode cX7_runs 35 = .ok (.istore 4, 2) := by decide +kernel
theorem dX7_runs_37 : decode cX7_runs 37 = .ok (.aload_n 0, 1) := by decide +kernel
theorem dX7_runs_38 : decode cX7_runs 38 = .ok (.iload_n 1, 1) := by decide +kernel
theorem dX7_runs_39 : decode cX7_runs 39 = .ok (.iload_n 2, 1) := by decide +kernel
theorem dX7_runs_40 : decode cX7_runs 40 = .ok (.iload_n 3, 1) := by decide +kernel
theorem dX7_runs_41 : decode cX7_runs 41 = .ok (.invokevirtual 265, 3) := by decide +kernel
theorem dX7_runs_44 : decode cX7_runs 44 = .ok (.istore 5, 2) := by decide +kernel
theorem dX7_runs_46 : decode cX7_runs 46 = .ok (.iload 5, 2) := by decide +kernel
theorem dX7_runs_48 : decode cX7_runs 48 = .ok (.iload 4, 2) := by decide +kernel
theorem dX7_runs_50 : decode cX7_runs 50 = .ok (.if_icmp .le 7, 3) := by decide +kernel
theorem dX7_runs_53 : decode cX7_runs 53 = .ok (.iconst 1, 1) := by decide +kernel
theorem dX7_runs_54 : decode cX7_runs 54 = .ok (.goto 15, 3) := by decide +kernel
theorem dX7_runs_57 : decode cX7_runs 57 = .ok (.iload 5, 2) := by decide +kernel
theorem dX7_runs_59 : decode cX7_runs 59 = .ok (.iload 4, 2) := by decide +kernel
theorem dX7_runs_61 : decode cX7_runs 61 = .ok (.if_icmp .ge 7, 3) := by decide +kernel
theorem dX7_runs_64 : decode cX7_runs 64 = .ok (.iconst (-1), 1) := by decide +kernel
theorem dX7_runs_65 : decode cX7_runs 65 = .ok (.goto 4, 3) := by decide +kernel
theorem dX7_runs_68 : decode cX7_runs 68 = .ok (.iconst 0, 1) := by decide +kernel
theorem dX7_runs_69 : decode cX7_runs 69 = .ok (.ireturn, 1) := by decide +kernel
theorem dX7_changes_0 : decode cX7_changes 0 = .ok (.iconst 0, 1) := by decide +kernel
theorem dX7_changes_1 : decode cX7_changes 1 = .ok (.istore_n 1, 1) := by decide +kernel
theorem dX7_changes_2 : decode cX7_changes 2 = .ok (.iconst 0, 1) := by decide +kernel
theorem dX7_changes_3 : decode cX7_changes 3 = .ok (.istore_n 2, 1) := by decide +kernel
theorem dX7_changes_4 : decode cX7_changes 4 = .ok (.iload_n 2, 1) := by decide +kernel
theorem dX7_changes_5 : decode cX7_changes 5 = .ok (.aload_n 0, 1) := by decide +kernel
theorem dX7_changes_6 : decode cX7_changes 6 = .ok (.getfield 114, 3) := by decide +kernel
theorem dX7_changes_9 : decode cX7_changes 9 = .ok (.if_icmp .ge 36, 3) := by decide +kernel
theorem dX7_changes_12 : decode cX7_changes 12 = .ok (.aload_n 0, 1) := by decide +kernel
theorem dX7_changes_13 : decode cX7_changes 13 = .ok (.getfield 99, 3) := by decide +kernel
theorem dX7_changes_16 : decode cX7_changes 16 = .ok (.iload_n 2, 1) := by decide +kernel
theorem dX7_changes_17 : decode cX7_changes 17 = .ok (.iaload, 1) := by decide +kernel
theorem dX7_changes_18 : decode cX7_changes 18 = .ok (.aload_n 0, 1) := by decide +kernel
theorem dX7_changes_19 : decode cX7_changes 19 = .ok (.iload_n 2, 1) := by decide +kernel
theorem dX7_changes_20 : decode cX7_changes 20 = .ok (.invokevirtual 131, 3) := by decide +kernel
theorem dX7_changes_23 : decode cX7_changes 23 = .ok (.if_icmp .eq 5, 3) := by decide +kernel
theorem dX7_changes_26 : decode cX7_changes 26 = .ok (.iconst 1, 1) := by decide +kernel
theorem dX7_changes_27 : decode cX7_changes 27 = .ok (.istore_n 1, 1) := by decide +kernel
theorem dX7_changes_28 : decode cX7_changes 28 = .ok (.aload_n 0, 1) := by decide +kernel
theorem dX7_changes_29 : decode cX7_changes 29 = .ok (.getfield 99, 3) := by decide +kernel
theorem dX7_changes_32 : decode cX7_changes 32 = .ok (.iload_n 2, 1) := by decide +kernel
theorem dX7_changes_33 : decode cX7_changes 33 = .ok (.aload_n 0, 1) := by decide +kernel
theorem dX7_changes_34 : decode cX7_changes 34 = .ok (.iload_n 2, 1) := by decide +kernel
theorem dX7_changes_35 : decode cX7_changes 35 = .ok (.invokevirtual 131, 3) := by decide +kernel
theorem dX7_changes_38 : decode cX7_changes 38 = .ok (.iastore, 1) := by decide +kernel
theorem dX7_changes_39 : decode cX7_changes 39 = .ok (.iinc 2 1, 3) := by decide +kernel
theorem dX7_changes_42 : decode cX7_changes 42 = .ok (.goto (-38), 3) := by decide +kernel
theorem dX7_changes_45 : decode cX7_changes 45 = .ok (.iload_n 1, 1) := by decide +kernel
theorem dX7_changes_46 : decode cX7_changes 46 = .ok (.ireturn, 1) := by decide +kernel
theorem dX7_settles_0 : decode cX7_settles 0 = .ok (.iload_n 2, 1) := by decide +kernel
theorem dX7_settles_1 : decode cX7_settles 1 = .ok (.ifCond .lt 8, 3) := by decide +kernel
theorem dX7_settles_4 : decode cX7_settles 4 = .ok (.iload_n 2, 1) := by decide +kernel
theorem dX7_settles_5 : decode cX7_settles 5 = .ok (.iconst 1, 1) := by decide +kernel
theorem dX7_settles_6 : decode cX7_settles 6 = .ok (.if_icmp .le 10, 3) := by decide +kernel
theorem dX7_settles_9 : decode cX7_settles 9 = .ok (.aload_n 0, 1) := by decide +kernel
theorem dX7_settles_10 : decode cX7_settles 10 = .ok (.bipush (-5), 2) := by decide +kernel
theorem dX7_settles_12 : decode cX7_settles 12 = .ok (.invokevirtual 145, 3) := by decide +kernel
theorem dX7_settles_15 : decode cX7_settles 15 = .ok (.ireturn, 1) := by decide +kernel
theorem dX7_settles_16 : decode cX7_settles 16 = .ok (.aload_n 0, 1) := by decide +kernel
theorem dX7_settles_17 : decode cX7_settles 17 = .ok (.iload_n 1, 1) := by decide +kernel
theorem dX7_settles_18 : decode cX7_settles 18 = .ok (.invokevirtual 247, 3) := by decide +kernel
theorem dX7_settles_21 : decode cX7_settles 21 = .ok (.ifCond .ne 10, 3) := by decide +kernel
theorem dX7_settles_24 : decode cX7_settles 24 = .ok (.aload_n 0, 1) := by decide +kernel
theorem dX7_settles_25 : decode cX7_settles 25 = .ok (.bipush (-6), 2) := by decide +kernel
theorem dX7_settles_27 : decode cX7_settles 27 = .ok (.invokevirtual 145, 3) := by decide +kernel
theorem dX7_settles_30 : decode cX7_settles 30 = .ok (.ireturn, 1) := by decide +kernel
theorem dX7_settles_31 : decode cX7_settles 31 = .ok (.aload_n 0, 1) := by decide +kernel
theorem dX7_settles_32 : decode cX7_settles 32 = .ok (.aload_n 0, 1) := by decide +kernel
theorem dX7_settles_33 : decode cX7_settles 33 = .ok (.getfield 93, 3) := by decide +kernel
theorem dX7_settles_36 : decode cX7_settles 36 = .ok (.iconst 0, 1) := by decide +kernel
theorem dX7_settles_37 : decode cX7_settles 37 = .ok (.invokevirtual 210, 3) := by decide +kernel
theorem dX7_settles_40 : decode cX7_settles 40 = .ok (.iconst 0, 1) := by decide +kernel
theorem dX7_settles_41 : decode cX7_settles 41 = .ok (.istore_n 3, 1) := by decide +kernel
theorem dX7_settles_42 : decode cX7_settles 42 = .ok (.iconst 0, 1) := by decide +kernel
theorem dX7_settles_43 : decode cX7_settles 43 = .ok (.istore 4, 2) := by decide +kernel
theorem dX7_settles_45 : decode cX7_settles 45 = .ok (.aload_n 0, 1) := by decide +kernel
theorem dX7_settles_46 : decode cX7_settles 46 = .ok (.invokevirtual 268, 3) := by decide +kernel
theorem dX7_settles_49 : decode cX7_settles 49 = .ok (.pop, 1) := by decide +kernel
theorem dX7_settles_50 : decode cX7_settles 50 = .ok (.iconst 1, 1) := by decide +kernel
theorem dX7_settles_51 : decode cX7_settles 51 = .ok (.istore 5, 2) := by decide +kernel
theorem dX7_settles_53 : decode cX7_settles 53 = .ok (.iload 5, 2) := by decide +kernel
theorem dX7_settles_55 : decode cX7_settles 55 = .ok (.sipush 240, 3) := by decide +kernel
theorem dX7_settles_58 : decode cX7_settles 58 = .ok (.if_icmp .gt 43, 3) := by decide +kernel
theorem dX7_settles_61 : decode cX7_settles 61 = .ok (.aload_n 0, 1) := by decide +kernel
theorem dX7_settles_62 : decode cX7_settles 62 = .ok (.getfield 204, 3) := by decide +kernel
theorem dX7_settles_65 : decode cX7_settles 65 = .ok (.istore 6, 2) := by decide +kernel
theorem dX7_settles_67 : decode cX7_settles 67 = .ok (.aload_n 0, 1) := by decide +kernel
theorem dX7_settles_68 : decode cX7_settles 68 = .ok (.iload_n 1, 1) := by decide +kernel
theorem dX7_settles_69 : decode cX7_settles 69 = .ok (.invokevirtual 243, 3) := by decide +kernel
theorem dX7_settles_72 : decode cX7_settles 72 = .ok (.aload_n 0, 1) := by decide +kernel
theorem dX7_settles_73 : decode cX7_settles 73 = .ok (.invokevirtual 268, 3) := by decide +kernel
theorem dX7_settles_76 : decode cX7_settles 76 = .ok (.ifCond .eq 6, 3) := by decide +kernel
theorem dX7_settles_79 : decode cX7_settles 79 = .ok (.iload 5, 2) := by decide +kernel
theorem dX7_settles_81 : decode cX7_settles 81 = .ok (.istore_n 3, 1) := by decide +kernel
theorem dX7_settles_82 : decode cX7_settles 82 = .ok (.aload_n 0, 1) := by decide +kernel
theorem dX7_settles_83 : decode cX7_settles 83 = .ok (.getfield 204, 3) := by decide +kernel
theorem dX7_settles_86 : decode cX7_settles 86 = .ok (.iload 6, 2) := by decide +kernel
theorem dX7_settles_88 : decode cX7_settles 88 = .ok (.if_icmp .le 7, 3) := by decide +kernel
theorem dX7_settles_91 : decode cX7_settles 91 = .ok (.iload 5, 2) := by decide +kernel
theorem dX7_settles_93 : decode cX7_settles 93 = .ok (.istore 4, 2) := by decide +kernel
theorem dX7_settles_95 : decode cX7_settles 95 = .ok (.iinc 5 1, 3) := by decide +kernel
theorem dX7_settles_98 : decode cX7_settles 98 = .ok (.goto (-45), 3) := by decide +kernel
theorem dX7_settles_101 : decode cX7_settles 101 = .ok (.aload_n 0, 1) := by decide +kernel
theorem dX7_settles_102 : decode cX7_settles 102 = .ok (.invokevirtual 262, 3) := by decide +kernel
theorem dX7_settles_105 : decode cX7_settles 105 = .ok (.iload_n 2, 1) := by decide +kernel
theorem dX7_settles_106 : decode cX7_settles 106 = .ok (.ifCond .ne 7, 3) := by decide +kernel
theorem dX7_settles_109 : decode cX7_settles 109 = .ok (.iload_n 3, 1) := by decide +kernel
theorem dX7_settles_110 : decode cX7_settles 110 = .ok (.goto 17, 3) := by decide +kernel
theorem dX7_settles_113 : decode cX7_settles 113 = .ok (.iload 4, 2) := by decide +kernel
theorem dX7_settles_115 : decode cX7_settles 115 = .ok (.sipush 240, 3) := by decide +kernel
theorem dX7_settles_118 : decode cX7_settles 118 = .ok (.if_icmp .ne 7, 3) := by decide +kernel
theorem dX7_settles_121 : decode cX7_settles 121 = .ok (.iconst (-1), 1) := by decide +kernel
theorem dX7_settles_122 : decode cX7_settles 122 = .ok (.goto 5, 3) := by decide +kernel
theorem dX7_settles_125 : decode cX7_settles 125 = .ok (.iload 4, 2) := by decide +kernel
theorem dX7_settles_127 : decode cX7_settles 127 = .ok (.ireturn, 1) := by decide +kernel
theorem dX7_picked_0 : decode cX7_picked 0 = .ok (.aload_n 0, 1) := by decide +kernel
theorem dX7_picked_1 : decode cX7_picked 1 = .ok (.iload_n 1, 1) := by decide +kernel
theorem dX7_picked_2 : decode cX7_picked 2 = .ok (.invokevirtual 142, 3) := by decide +kernel
theorem dX7_picked_5 : decode cX7_picked 5 = .ok (.ifCond .eq 35, 3) := by decide +kernel
theorem dX7_picked_8 : decode cX7_picked 8 = .ok (.aload_n 0, 1) := by decide +kernel
theorem dX7_picked_9 : decode cX7_picked 9 = .ok (.iload_n 2, 1) := by decide +kernel
theorem dX7_picked_10 : decode cX7_picked 10 = .ok (.invokevirtual 128, 3) := by decide +kernel
theorem dX7_picked_13 : decode cX7_picked 13 = .ok (.ifCond .eq 27, 3) := by decide +kernel
theorem dX7_picked_16 : decode cX7_picked 16 = .ok (.aload_n 0, 1) := by decide +kernel
theorem dX7_picked_17 : decode cX7_picked 17 = .ok (.iload_n 2, 1) := by decide +kernel
theorem dX7_picked_18 : decode cX7_picked 18 = .ok (.invokevirtual 131, 3) := by decide +kernel
theorem dX7_picked_21 : decode cX7_picked 21 = .ok (.aload_n 0, 1) := by decide +kernel
theorem dX7_picked_22 : decode cX7_picked 22 = .ok (.getfield 41, 3) := by decide +kernel
theorem dX7_picked_25 : decode cX7_picked 25 = .ok (.iload_n 1, 1) := by decide +kernel
theorem dX7_picked_26 : decode cX7_picked 26 = .ok (.iaload, 1) := by decide +kernel
theorem dX7_picked_27 : decode cX7_picked 27 = .ok (.iadd, 1) := by decide +kernel
theorem dX7_picked_28 : decode cX7_picked 28 = .ok (.iconst 1, 1) := by decide +kernel
theorem dX7_picked_29 : decode cX7_picked 29 = .ok (.isub, 1) := by decide +kernel
theorem dX7_picked_30 : decode cX7_picked 30 = .ok (.aload_n 0, 1) := by decide +kernel
theorem dX7_picked_31 : decode cX7_picked 31 = .ok (.getfield 41, 3) := by decide +kernel
theorem dX7_picked_34 : decode cX7_picked 34 = .ok (.iload_n 1, 1) := by decide +kernel
theorem dX7_picked_35 : decode cX7_picked 35 = .ok (.iaload, 1) := by decide +kernel
theorem dX7_picked_36 : decode cX7_picked 36 = .ok (.idiv, 1) := by decide +kernel
theorem dX7_picked_37 : decode cX7_picked 37 = .ok (.goto 8, 3) := by decide +kernel
theorem dX7_picked_40 : decode cX7_picked 40 = .ok (.aload_n 0, 1) := by decide +kernel
theorem dX7_picked_41 : decode cX7_picked 41 = .ok (.iconst (-1), 1) := by decide +kernel
theorem dX7_picked_42 : decode cX7_picked 42 = .ok (.invokevirtual 124, 3) := by decide +kernel
theorem dX7_picked_45 : decode cX7_picked 45 = .ok (.ireturn, 1) := by decide +kernel
theorem dX7_cheapest_0 : decode cX7_cheapest 0 = .ok (.aload_n 0, 1) := by decide +kernel
theorem dX7_cheapest_1 : decode cX7_cheapest 1 = .ok (.getfield 114, 3) := by decide +kernel
theorem dX7_cheapest_4 : decode cX7_cheapest 4 = .ok (.ifCond .ne 10, 3) := by decide +kernel
theorem dX7_cheapest_7 : decode cX7_cheapest 7 = .ok (.aload_n 0, 1) := by decide +kernel
theorem dX7_cheapest_8 : decode cX7_cheapest 8 = .ok (.bipush (-5), 2) := by decide +kernel
theorem dX7_cheapest_10 : decode cX7_cheapest 10 = .ok (.invokevirtual 124, 3) := by decide +kernel
theorem dX7_cheapest_13 : decode cX7_cheapest 13 = .ok (.ireturn, 1) := by decide +kernel
theorem dX7_cheapest_14 : decode cX7_cheapest 14 = .ok (.iconst 0, 1) := by decide +kernel
theorem dX7_cheapest_15 : decode cX7_cheapest 15 = .ok (.istore_n 1, 1) := by decide +kernel
theorem dX7_cheapest_16 : decode cX7_cheapest 16 = .ok (.iconst 1, 1) := by decide +kernel
theorem dX7_cheapest_17 : decode cX7_cheapest 17 = .ok (.istore_n 2, 1) := by decide +kernel
theorem dX7_cheapest_18 : decode cX7_cheapest 18 = .ok (.iload_n 2, 1) := by decide +kernel
theorem dX7_cheapest_19 : decode cX7_cheapest 19 = .ok (.aload_n 0, 1) := by decide +kernel
theorem dX7_cheapest_20 : decode cX7_cheapest 20 = .ok (.getfield 114, 3) := by decide +kernel
theorem dX7_cheapest_23 : decode cX7_cheapest 23 = .ok (.if_icmp .ge 24, 3) := by decide +kernel
theorem dX7_cheapest_26 : decode cX7_cheapest 26 = .ok (.aload_n 0, 1) := by decide +kernel
theorem dX7_cheapest_27 : decode cX7_cheapest 27 = .ok (.iload_n 2, 1) := by decide +kernel
theorem dX7_cheapest_28 : decode cX7_cheapest 28 = .ok (.invokevirtual 131, 3) := by decide +kernel
theorem dX7_cheapest_31 : decode cX7_cheapest 31 = .ok (.aload_n 0, 1) := by decide +kernel
theorem dX7_cheapest_32 : decode cX7_cheapest 32 = .ok (.iload_n 1, 1) := by decide +kernel
theorem dX7_cheapest_33 : decode cX7_cheapest 33 = .ok (.invokevirtual 131, 3) := by decide +kernel
theorem dX7_cheapest_36 : decode cX7_cheapest 36 = .ok (.if_icmp .ge 5, 3) := by decide +kernel
theorem dX7_cheapest_39 : decode cX7_cheapest 39 = .ok (.iload_n 2, 1) := by decide +kernel
theorem dX7_cheapest_40 : decode cX7_cheapest 40 = .ok (.istore_n 1, 1) := by decide +kernel
theorem dX7_cheapest_41 : decode cX7_cheapest 41 = .ok (.iinc 2 1, 3) := by decide +kernel
theorem dX7_cheapest_44 : decode cX7_cheapest 44 = .ok (.goto (-26), 3) := by decide +kernel
theorem dX7_cheapest_47 : decode cX7_cheapest 47 = .ok (.iload_n 1, 1) := by decide +kernel
theorem dX7_cheapest_48 : decode cX7_cheapest 48 = .ok (.ireturn, 1) := by decide +kernel
theorem dX7_dealsIn_0 : decode cX7_dealsIn 0 = .ok (.aload_n 0, 1) := by decide +kernel
theorem dX7_dealsIn_1 : decode cX7_dealsIn 1 = .ok (.iload_n 1, 1) := by decide +kernel
theorem dX7_dealsIn_2 : decode cX7_dealsIn 2 = .ok (.iload_n 2, 1) := by decide +kernel
theorem dX7_dealsIn_3 : decode cX7_dealsIn 3 = .ok (.invokevirtual 259, 3) := by decide +kernel
theorem dX7_dealsIn_6 : decode cX7_dealsIn 6 = .ok (.aload_n 0, 1) := by decide +kernel
theorem dX7_dealsIn_7 : decode cX7_dealsIn 7 = .ok (.invokevirtual 262, 3) := by decide +kernel
theorem dX7_dealsIn_10 : decode cX7_dealsIn 10 = .ok (.aload_n 0, 1) := by decide +kernel
theorem dX7_dealsIn_11 : decode cX7_dealsIn 11 = .ok (.getfield 253, 3) := by decide +kernel
theorem dX7_dealsIn_14 : decode cX7_dealsIn 14 = .ok (.ireturn, 1) := by decide +kernel
theorem dX7_money_0 : decode cX7_money 0 = .ok (.iload_n 1, 1) := by decide +kernel
theorem dX7_money_1 : decode cX7_money 1 = .ok (.ifCond .lt 10, 3) := by decide +kernel
theorem dX7_money_4 : decode cX7_money 4 = .ok (.iload_n 1, 1) := by decide +kernel
theorem dX7_money_5 : decode cX7_money 5 = .ok (.sipush 240, 3) := by decide +kernel
theorem dX7_money_8 : decode cX7_money 8 = .ok (.if_icmp .le 10, 3) := by decide +kernel
theorem dX7_money_11 : decode cX7_money 11 = .ok (.aload_n 0, 1) := by decide +kernel
theorem dX7_money_12 : decode cX7_money 12 = .ok (.bipush (-6), 2) := by decide +kernel
theorem dX7_money_14 : decode cX7_money 14 = .ok (.invokevirtual 124, 3) := by decide +kernel
theorem dX7_money_17 : decode cX7_money 17 = .ok (.ireturn, 1) := by decide +kernel
theorem dX7_money_18 : decode cX7_money 18 = .ok (.aload_n 0, 1) := by decide +kernel
theorem dX7_money_19 : decode cX7_money 19 = .ok (.iconst 0, 1) := by decide +kernel
theorem dX7_money_20 : decode cX7_money 20 = .ok (.iload_n 1, 1) := by decide +kernel
theorem dX7_money_21 : decode cX7_money 21 = .ok (.invokevirtual 271, 3) := by decide +kernel
theorem dX7_money_24 : decode cX7_money 24 = .ok (.istore_n 2, 1) := by decide +kernel
theorem dX7_money_25 : decode cX7_money 25 = .ok (.aload_n 0, 1) := by decide +kernel
theorem dX7_money_26 : decode cX7_money 26 = .ok (.iconst 2, 1) := by decide +kernel
theorem dX7_money_27 : decode cX7_money 27 = .ok (.iload_n 1, 1) := by decide +kernel
theorem dX7_money_28 : decode cX7_money 28 = .ok (.invokevirtual 271, 3) := by decide +kernel
theorem dX7_money_31 : decode cX7_money 31 = .ok (.istore_n 3, 1) := by decide +kernel
theorem dX7_money_32 : decode cX7_money 32 = .ok (.iconst 0, 1) := by decide +kernel
theorem dX7_money_33 : decode cX7_money 33 = .ok (.istore 4, 2) := by decide +kernel
theorem dX7_money_35 : decode cX7_money 35 = .ok (.iconst 0, 1) := by decide +kernel
theorem dX7_money_36 : decode cX7_money 36 = .ok (.istore 5, 2) := by decide +kernel
theorem dX7_money_38 : decode cX7_money 38 = .ok (.iload 5, 2) := by decide +kernel
theorem dX7_money_40 : decode cX7_money 40 = .ok (.aload_n 0, 1) := by decide +kernel
theorem dX7_money_41 : decode cX7_money 41 = .ok (.getfield 117, 3) := by decide +kernel
theorem dX7_money_44 : decode cX7_money 44 = .ok (.if_icmp .ge 21, 3) := by decide +kernel
theorem dX7_money_47 : decode cX7_money 47 = .ok (.iload 4, 2) := by decide +kernel
theorem dX7_money_49 : decode cX7_money 49 = .ok (.aload_n 0, 1) := by decide +kernel
theorem dX7_money_50 : decode cX7_money 50 = .ok (.getfield 50, 3) := by decide +kernel
theorem dX7_money_53 : decode cX7_money 53 = .ok (.iload 5, 2) := by decide +kernel
theorem dX7_money_55 : decode cX7_money 55 = .ok (.iaload, 1) := by decide +kernel
theorem dX7_money_56 : decode cX7_money 56 = .ok (.iadd, 1) := by decide +kernel
theorem dX7_money_57 : decode cX7_money 57 = .ok (.istore 4, 2) := by decide +kernel
theorem dX7_money_59 : decode cX7_money 59 = .ok (.iinc 5 1, 3) := by decide +kernel
theorem dX7_money_62 : decode cX7_money 62 = .ok (.goto (-24), 3) := by decide +kernel
theorem dX7_money_65 : decode cX7_money 65 = .ok (.iload_n 2, 1) := by decide +kernel
theorem dX7_money_66 : decode cX7_money 66 = .ok (.iload_n 3, 1) := by decide +kernel
theorem dX7_money_67 : decode cX7_money 67 = .ok (.if_icmp .lt 13, 3) := by decide +kernel
theorem dX7_money_70 : decode cX7_money 70 = .ok (.iload_n 2, 1) := by decide +kernel
theorem dX7_money_71 : decode cX7_money 71 = .ok (.iload 4, 2) := by decide +kernel
theorem dX7_money_73 : decode cX7_money 73 = .ok (.if_icmp .lt 7, 3) := by decide +kernel
theorem dX7_money_76 : decode cX7_money 76 = .ok (.iconst 0, 1) := by decide +kernel
theorem dX7_money_77 : decode cX7_money 77 = .ok (.goto 14, 3) := by decide +kernel
theorem dX7_money_80 : decode cX7_money 80 = .ok (.iload_n 3, 1) := by decide +kernel
theorem dX7_money_81 : decode cX7_money 81 = .ok (.iload 4, 2) := by decide +kernel
theorem dX7_money_83 : decode cX7_money 83 = .ok (.if_icmp .lt 7, 3) := by decide +kernel
theorem dX7_money_86 : decode cX7_money 86 = .ok (.iconst 1, 1) := by decide +kernel
theorem dX7_money_87 : decode cX7_money 87 = .ok (.goto 4, 3) := by decide +kernel
theorem dX7_money_90 : decode cX7_money 90 = .ok (.iconst 2, 1) := by decide +kernel
theorem dX7_money_91 : decode cX7_money 91 = .ok (.ireturn, 1) := by decide +kernel
theorem dX7_inked_0 : decode cX7_inked 0 = .ok (.iload_n 1, 1) := by decide +kernel
theorem dX7_inked_1 : decode cX7_inked 1 = .ok (.ifCond .lt 9, 3) := by decide +kernel
theorem dX7_inked_4 : decode cX7_inked 4 = .ok (.iload_n 1, 1) := by decide +kernel
theorem dX7_inked_5 : decode cX7_inked 5 = .ok (.bipush 60, 2) := by decide +kernel
theorem dX7_inked_7 : decode cX7_inked 7 = .ok (.if_icmp .le 10, 3) := by decide +kernel
theorem dX7_inked_10 : decode cX7_inked 10 = .ok (.aload_n 0, 1) := by decide +kernel
theorem dX7_inked_11 : decode cX7_inked 11 = .ok (.bipush (-6), 2) := by decide +kernel
theorem dX7_inked_13 : decode cX7_inked 13 = .ok (.invokevirtual 124, 3) := by decide +kernel
theorem dX7_inked_16 : decode cX7_inked 16 = .ok (.ireturn, 1) := by decide +kernel
theorem dX7_inked_17 : decode cX7_inked 17 = .ok (.aload_n 0, 1) := by decide +kernel
theorem dX7_inked_18 : decode cX7_inked 18 = .ok (.getfield 7, 3) := by decide +kernel
theorem dX7_inked_21 : decode cX7_inked 21 = .ok (.istore_n 2, 1) := by decide +kernel
theorem dX7_inked_22 : decode cX7_inked 22 = .ok (.iconst 0, 1) := by decide +kernel
theorem dX7_inked_23 : decode cX7_inked 23 = .ok (.istore_n 3, 1) := by decide +kernel
theorem dX7_inked_24 : decode cX7_inked 24 = .ok (.iconst (-1), 1) := by decide +kernel
theorem dX7_inked_25 : decode cX7_inked 25 = .ok (.istore 4, 2) := by decide +kernel
theorem dX7_inked_27 : decode cX7_inked 27 = .ok (.iconst 0, 1) := by decide +kernel
theorem dX7_inked_28 : decode cX7_inked 28 = .ok (.istore 5, 2) := by decide +kernel
theorem dX7_inked_30 : decode cX7_inked 30 = .ok (.iload 5, 2) := by decide +kernel
theorem dX7_inked_32 : decode cX7_inked 32 = .ok (.bipush 20, 2) := by decide +kernel
theorem dX7_inked_34 : decode cX7_inked 34 = .ok (.if_icmp .gt 37, 3) := by decide +kernel
theorem dX7_inked_37 : decode cX7_inked 37 = .ok (.aload_n 0, 1) := by decide +kernel
theorem dX7_inked_38 : decode cX7_inked 38 = .ok (.iload 5, 2) := by decide +kernel
theorem dX7_inked_40 : decode cX7_inked 40 = .ok (.putfield 7, 3) := by decide +kernel
theorem dX7_inked_43 : decode cX7_inked 43 = .ok (.aload_n 0, 1) := by decide +kernel
theorem dX7_inked_44 : decode cX7_inked 44 = .ok (.iconst 2, 1) := by decide +kernel
theorem dX7_inked_45 : decode cX7_inked 45 = .ok (.iload_n 1, 1) := by decide +kernel
theorem dX7_inked_46 : decode cX7_inked 46 = .ok (.invokevirtual 271, 3) := by decide +kernel
theorem dX7_inked_49 : decode cX7_inked 49 = .ok (.istore 6, 2) := by decide +kernel
theorem dX7_inked_51 : decode cX7_inked 51 = .ok (.iload 6, 2) := by decide +kernel
theorem dX7_inked_53 : decode cX7_inked 53 = .ok (.iload 4, 2) := by decide +kernel
theorem dX7_inked_55 : decode cX7_inked 55 = .ok (.if_icmp .le 10, 3) := by decide +kernel
theorem dX7_inked_58 : decode cX7_inked 58 = .ok (.iload 5, 2) := by decide +kernel
theorem dX7_inked_60 : decode cX7_inked 60 = .ok (.istore_n 3, 1) := by decide +kernel
theorem dX7_inked_61 : decode cX7_inked 61 = .ok (.iload 6, 2) := by decide +kernel
theorem dX7_inked_63 : decode cX7_inked 63 = .ok (.istore 4, 2) := by decide +kernel
theorem dX7_inked_65 : decode cX7_inked 65 = .ok (.iinc 5 1, 3) := by decide +kernel
theorem dX7_inked_68 : decode cX7_inked 68 = .ok (.goto (-38), 3) := by decide +kernel
theorem dX7_inked_71 : decode cX7_inked 71 = .ok (.aload_n 0, 1) := by decide +kernel
theorem dX7_inked_72 : decode cX7_inked 72 = .ok (.iload_n 2, 1) := by decide +kernel
theorem dX7_inked_73 : decode cX7_inked 73 = .ok (.putfield 7, 3) := by decide +kernel
theorem dX7_inked_76 : decode cX7_inked 76 = .ok (.iload_n 3, 1) := by decide +kernel
theorem dX7_inked_77 : decode cX7_inked 77 = .ok (.ireturn, 1) := by decide +kernel
theorem dX7_gives_0 : decode cX7_gives 0 = .ok (.iload_n 1, 1) := by decide +kernel
theorem dX7_gives_1 : decode cX7_gives 1 = .ok (.iload_n 2, 1) := by decide +kernel
theorem dX7_gives_2 : decode cX7_gives 2 = .ok (.if_icmp .ne 113, 3) := by decide +kernel
theorem dX7_gives_5 : decode cX7_gives 5 = .ok (.iconst 0, 1) := by decide +kernel
theorem dX7_gives_6 : decode cX7_gives 6 = .ok (.istore 4, 2) := by decide +kernel
theorem dX7_gives_8 : decode cX7_gives 8 = .ok (.iload 4, 2) := by decide +kernel
theorem dX7_gives_10 : decode cX7_gives 10 = .ok (.aload_n 0, 1) := by decide +kernel
theorem dX7_gives_11 : decode cX7_gives 11 = .ok (.getfield 117, 3) := by decide +kernel
theorem dX7_gives_14 : decode cX7_gives 14 = .ok (.if_icmp .ge 17, 3) := by decide +kernel
theorem dX7_gives_17 : decode cX7_gives 17 = .ok (.aload_n 0, 1) := by decide +kernel
theorem dX7_gives_18 : decode cX7_gives 18 = .ok (.getfield 56, 3) := by decide +kernel
theorem dX7_gives_21 : decode cX7_gives 21 = .ok (.iload 4, 2) := by decide +kernel
theorem dX7_gives_23 : decode cX7_gives 23 = .ok (.iconst (-1), 1) := by decide +kernel
theorem dX7_gives_24 : decode cX7_gives 24 = .ok (.iastore, 1) := by decide +kernel
theorem dX7_gives_25 : decode cX7_gives 25 = .ok (.iinc 4 1, 3) := by decide +kernel
theorem dX7_gives_28 : decode cX7_gives 28 = .ok (.goto (-20), 3) := by decide +kernel
theorem dX7_gives_31 : decode cX7_gives 31 = .ok (.iconst 0, 1) := by decide +kernel
theorem dX7_gives_32 : decode cX7_gives 32 = .ok (.istore 4, 2) := by decide +kernel
theorem dX7_gives_34 : decode cX7_gives 34 = .ok (.iload 4, 2) := by decide +kernel
theorem dX7_gives_36 : decode cX7_gives 36 = .ok (.iload_n 2, 1) := by decide +kernel
theorem dX7_gives_37 : decode cX7_gives 37 = .ok (.if_icmp .ge 23, 3) := by decide +kernel
theorem dX7_gives_40 : decode cX7_gives 40 = .ok (.aload_n 0, 1) := by decide +kernel
theorem dX7_gives_41 : decode cX7_gives 41 = .ok (.getfield 56, 3) := by decide +kernel
theorem dX7_gives_44 : decode cX7_gives 44 = .ok (.aload_n 0, 1) := by decide +kernel
theorem dX7_gives_45 : decode cX7_gives 45 = .ok (.getfield 102, 3) := by decide +kernel
theorem dX7_gives_48 : decode cX7_gives 48 = .ok (.iload 4, 2) := by decide +kernel
theorem dX7_gives_50 : decode cX7_gives 50 = .ok (.iaload, 1) := by decide +kernel
theorem dX7_gives_51 : decode cX7_gives 51 = .ok (.iload 4, 2) := by decide +kernel
theorem dX7_gives_53 : decode cX7_gives 53 = .ok (.iastore, 1) := by decide +kernel
theorem dX7_gives_54 : decode cX7_gives 54 = .ok (.iinc 4 1, 3) := by decide +kernel
theorem dX7_gives_57 : decode cX7_gives 57 = .ok (.goto (-23), 3) := by decide +kernel
theorem dX7_gives_60 : decode cX7_gives 60 = .ok (.aload_n 0, 1) := by decide +kernel
theorem dX7_gives_61 : decode cX7_gives 61 = .ok (.iconst 0, 1) := by decide +kernel
theorem dX7_gives_62 : decode cX7_gives 62 = .ok (.bipush 30, 2) := by decide +kernel
theorem dX7_gives_64 : decode cX7_gives 64 = .ok (.invokevirtual 271, 3) := by decide +kernel
theorem dX7_gives_67 : decode cX7_gives 67 = .ok (.istore 4, 2) := by decide +kernel
theorem dX7_gives_69 : decode cX7_gives 69 = .ok (.iload 4, 2) := by decide +kernel
theorem dX7_gives_71 : decode cX7_gives 71 = .ok (.aload_n 0, 1) := by decide +kernel
theorem dX7_gives_72 : decode cX7_gives 72 = .ok (.getfield 274, 3) := by decide +kernel
theorem dX7_gives_75 : decode cX7_gives 75 = .ok (.if_icmp .gt 4, 3) := by decide +kernel
theorem dX7_gives_78 : decode cX7_gives 78 = .ok (.return_, 1) := by decide +kernel
theorem dX7_gives_79 : decode cX7_gives 79 = .ok (.aload_n 0, 1) := by decide +kernel
theorem dX7_gives_80 : decode cX7_gives 80 = .ok (.iload 4, 2) := by decide +kernel
theorem dX7_gives_82 : decode cX7_gives 82 = .ok (.putfield 274, 3) := by decide +kernel
theorem dX7_gives_85 : decode cX7_gives 85 = .ok (.iconst 0, 1) := by decide +kernel
theorem dX7_gives_86 : decode cX7_gives 86 = .ok (.istore 5, 2) := by decide +kernel
theorem dX7_gives_88 : decode cX7_gives 88 = .ok (.iload 5, 2) := by decide +kernel
theorem dX7_gives_90 : decode cX7_gives 90 = .ok (.iload_n 2, 1) := by decide +kernel
theorem dX7_gives_91 : decode cX7_gives 91 = .ok (.if_icmp .ge 23, 3) := by decide +kernel
theorem dX7_gives_94 : decode cX7_gives 94 = .ok (.aload_n 0, 1) := by decide +kernel
theorem dX7_gives_95 : decode cX7_gives 95 = .ok (.getfield 105, 3) := by decide +kernel
theorem dX7_gives_98 : decode cX7_gives 98 = .ok (.iload 5, 2) := by decide +kernel
theorem dX7_gives_100 : decode cX7_gives 100 = .ok (.aload_n 0, 1) := by decide +kernel
theorem dX7_gives_101 : decode cX7_gives 101 = .ok (.getfield 102, 3) := by decide +kernel
theorem dX7_gives_104 : decode cX7_gives 104 = .ok (.iload 5, 2) := by decide +kernel
theorem dX7_gives_106 : decode cX7_gives 106 = .ok (.iaload, 1) := by decide +kernel
theorem dX7_gives_107 : decode cX7_gives 107 = .ok (.iastore, 1) := by decide +kernel
theorem dX7_gives_108 : decode cX7_gives 108 = .ok (.iinc 5 1, 3) := by decide +kernel
theorem dX7_gives_111 : decode cX7_gives 111 = .ok (.goto (-23), 3) := by decide +kernel
theorem dX7_gives_114 : decode cX7_gives 114 = .ok (.return_, 1) := by decide +kernel
theorem dX7_gives_115 : decode cX7_gives 115 = .ok (.iconst 0, 1) := by decide +kernel
theorem dX7_gives_116 : decode cX7_gives 116 = .ok (.istore 4, 2) := by decide +kernel
theorem dX7_gives_118 : decode cX7_gives 118 = .ok (.iload 4, 2) := by decide +kernel
theorem dX7_gives_120 : decode cX7_gives 120 = .ok (.aload_n 0, 1) := by decide +kernel
theorem dX7_gives_121 : decode cX7_gives 121 = .ok (.getfield 117, 3) := by decide +kernel
theorem dX7_gives_124 : decode cX7_gives 124 = .ok (.if_icmp .ge 44, 3) := by decide +kernel
theorem dX7_gives_127 : decode cX7_gives 127 = .ok (.iload_n 3, 1) := by decide +kernel
theorem dX7_gives_128 : decode cX7_gives 128 = .ok (.iload 4, 2) := by decide +kernel
theorem dX7_gives_130 : decode cX7_gives 130 = .ok (.ishr, 1) := by decide +kernel
theorem dX7_gives_131 : decode cX7_gives 131 = .ok (.iconst 1, 1) := by decide +kernel
theorem dX7_gives_132 : decode cX7_gives 132 = .ok (.iand, 1) := by decide +kernel
theorem dX7_gives_133 : decode cX7_gives 133 = .ok (.iconst 1, 1) := by decide +kernel
theorem dX7_gives_134 : decode cX7_gives 134 = .ok (.if_icmp .ne 6, 3) := by decide +kernel
theorem dX7_gives_137 : decode cX7_gives 137 = .ok (.goto 25, 3) := by decide +kernel
theorem dX7_gives_140 : decode cX7_gives 140 = .ok (.aload_n 0, 1) := by decide +kernel
theorem dX7_gives_141 : decode cX7_gives 141 = .ok (.getfield 102, 3) := by decide +kernel
theorem dX7_gives_144 : decode cX7_gives 144 = .ok (.iload_n 1, 1) := by decide +kernel
theorem dX7_gives_145 : decode cX7_gives 145 = .ok (.iload 4, 2) := by decide +kernel
theorem dX7_gives_147 : decode cX7_gives 147 = .ok (.iastore, 1) := by decide +kernel
theorem dX7_gives_148 : decode cX7_gives 148 = .ok (.aload_n 0, 1) := by decide +kernel
theorem dX7_gives_149 : decode cX7_gives 149 = .ok (.iload_n 1, 1) := by decide +kernel
theorem dX7_gives_150 : decode cX7_gives 150 = .ok (.iconst 1, 1) := by decide +kernel
theorem dX7_gives_151 : decode cX7_gives 151 = .ok (.iadd, 1) := by decide +kernel
theorem dX7_gives_152 : decode cX7_gives 152 = .ok (.iload_n 2, 1) := by decide +kernel
theorem dX7_gives_153 : decode cX7_gives 153 = .ok (.iload_n 3, 1) := by decide +kernel
theorem dX7_gives_154 : decode cX7_gives 154 = .ok (.iconst 1, 1) := by decide +kernel
theorem dX7_gives_155 : decode cX7_gives 155 = .ok (.iload 4, 2) := by decide +kernel
theorem dX7_gives_157 : decode cX7_gives 157 = .ok (.ishl, 1) := by decide +kernel
theorem dX7_gives_158 : decode cX7_gives 158 = .ok (.ior, 1) := by decide +kernel
theorem dX7_gives_159 : decode cX7_gives 159 = .ok (.invokevirtual 277, 3) := by decide +kernel
theorem dX7_gives_162 : decode cX7_gives 162 = .ok (.iinc 4 1, 3) := by decide +kernel
theorem dX7_gives_165 : decode cX7_gives 165 = .ok (.goto (-47), 3) := by decide +kernel
theorem dX7_gives_168 : decode cX7_gives 168 = .ok (.return_, 1) := by decide +kernel
theorem dX7_keepers_0 : decode cX7_keepers 0 = .ok (.iload_n 1, 1) := by decide +kernel
theorem dX7_keepers_1 : decode cX7_keepers 1 = .ok (.iconst 1, 1) := by decide +kernel
theorem dX7_keepers_2 : decode cX7_keepers 2 = .ok (.if_icmp .lt 24, 3) := by decide +kernel
theorem dX7_keepers_5 : decode cX7_keepers 5 = .ok (.iload_n 1, 1) := by decide +kernel
theorem dX7_keepers_6 : decode cX7_keepers 6 = .ok (.iconst 4, 1) := by decide +kernel
theorem dX7_keepers_7 : decode cX7_keepers 7 = .ok (.if_icmp .gt 19, 3) := by decide +kernel
theorem dX7_keepers_10 : decode cX7_keepers 10 = .ok (.iload_n 1, 1) := by decide +kernel
theorem dX7_keepers_11 : decode cX7_keepers 11 = .ok (.aload_n 0, 1) := by decide +kernel
theorem dX7_keepers_12 : decode cX7_keepers 12 = .ok (.getfield 114, 3) := by decide +kernel
theorem dX7_keepers_15 : decode cX7_keepers 15 = .ok (.if_icmp .gt 11, 3) := by decide +kernel
theorem dX7_keepers_18 : decode cX7_keepers 18 = .ok (.iload_n 1, 1) := by decide +kernel
theorem dX7_keepers_19 : decode cX7_keepers 19 = .ok (.aload_n 0, 1) := by decide +kernel
theorem dX7_keepers_20 : decode cX7_keepers 20 = .ok (.getfield 117, 3) := by decide +kernel
theorem dX7_keepers_23 : decode cX7_keepers 23 = .ok (.if_icmp .le 10, 3) := by decide +kernel
theorem dX7_keepers_26 : decode cX7_keepers 26 = .ok (.aload_n 0, 1) := by decide +kernel
theorem dX7_keepers_27 : decode cX7_keepers 27 = .ok (.bipush (-6), 2) := by decide +kernel
theorem dX7_keepers_29 : decode cX7_keepers 29 = .ok (.invokevirtual 124, 3) := by decide +kernel
theorem dX7_keepers_32 : decode cX7_keepers 32 = .ok (.ireturn, 1) := by decide +kernel
theorem dX7_keepers_33 : decode cX7_keepers 33 = .ok (.iload_n 2, 1) := by decide +kernel
theorem dX7_keepers_34 : decode cX7_keepers 34 = .ok (.iconst (-1), 1) := by decide +kernel
theorem dX7_keepers_35 : decode cX7_keepers 35 = .ok (.if_icmp .lt 8, 3) := by decide +kernel
theorem dX7_keepers_38 : decode cX7_keepers 38 = .ok (.iload_n 2, 1) := by decide +kernel
theorem dX7_keepers_39 : decode cX7_keepers 39 = .ok (.iload_n 1, 1) := by decide +kernel
theorem dX7_keepers_40 : decode cX7_keepers 40 = .ok (.if_icmp .lt 10, 3) := by decide +kernel
theorem dX7_keepers_43 : decode cX7_keepers 43 = .ok (.aload_n 0, 1) := by decide +kernel
theorem dX7_keepers_44 : decode cX7_keepers 44 = .ok (.bipush (-5), 2) := by decide +kernel
theorem dX7_keepers_46 : decode cX7_keepers 46 = .ok (.invokevirtual 124, 3) := by decide +kernel
theorem dX7_keepers_49 : decode cX7_keepers 49 = .ok (.ireturn, 1) := by decide +kernel
theorem dX7_keepers_50 : decode cX7_keepers 50 = .ok (.iconst 0, 1) := by decide +kernel
theorem dX7_keepers_51 : decode cX7_keepers 51 = .ok (.istore_n 3, 1) := by decide +kernel
theorem dX7_keepers_52 : decode cX7_keepers 52 = .ok (.iload_n 3, 1) := by decide +kernel
theorem dX7_keepers_53 : decode cX7_keepers 53 = .ok (.aload_n 0, 1) := by decide +kernel
theorem dX7_keepers_54 : decode cX7_keepers 54 = .ok (.getfield 117, 3) := by decide +kernel
theorem dX7_keepers_57 : decode cX7_keepers 57 = .ok (.if_icmp .ge 21, 3) := by decide +kernel
theorem dX7_keepers_60 : decode cX7_keepers 60 = .ok (.aload_n 0, 1) := by decide +kernel
theorem dX7_keepers_61 : decode cX7_keepers 61 = .ok (.getfield 108, 3) := by decide +kernel
theorem dX7_keepers_64 : decode cX7_keepers 64 = .ok (.iload_n 3, 1) := by decide +kernel
theorem dX7_keepers_65 : decode cX7_keepers 65 = .ok (.aload_n 0, 1) := by decide +kernel
theorem dX7_keepers_66 : decode cX7_keepers 66 = .ok (.getfield 56, 3) := by decide +kernel
theorem dX7_keepers_69 : decode cX7_keepers 69 = .ok (.iload_n 3, 1) := by decide +kernel
theorem dX7_keepers_70 : decode cX7_keepers 70 = .ok (.iaload, 1) := by decide +kernel
theorem dX7_keepers_71 : decode cX7_keepers 71 = .ok (.iastore, 1) := by decide +kernel
theorem dX7_keepers_72 : decode cX7_keepers 72 = .ok (.iinc 3 1, 3) := by decide +kernel
theorem dX7_keepers_75 : decode cX7_keepers 75 = .ok (.goto (-23), 3) := by decide +kernel
theorem dX7_keepers_78 : decode cX7_keepers 78 = .ok (.aload_n 0, 1) := by decide +kernel
theorem dX7_keepers_79 : decode cX7_keepers 79 = .ok (.iconst (-1), 1) := by decide +kernel
theorem dX7_keepers_80 : decode cX7_keepers 80 = .ok (.putfield 274, 3) := by decide +kernel
theorem dX7_keepers_83 : decode cX7_keepers 83 = .ok (.aload_n 0, 1) := by decide +kernel
theorem dX7_keepers_84 : decode cX7_keepers 84 = .ok (.iconst 0, 1) := by decide +kernel
theorem dX7_keepers_85 : decode cX7_keepers 85 = .ok (.iload_n 1, 1) := by decide +kernel
theorem dX7_keepers_86 : decode cX7_keepers 86 = .ok (.iconst 0, 1) := by decide +kernel
theorem dX7_keepers_87 : decode cX7_keepers 87 = .ok (.invokevirtual 277, 3) := by decide +kernel
theorem dX7_keepers_90 : decode cX7_keepers 90 = .ok (.iconst 0, 1) := by decide +kernel
theorem dX7_keepers_91 : decode cX7_keepers 91 = .ok (.istore_n 3, 1) := by decide +kernel
theorem dX7_keepers_92 : decode cX7_keepers 92 = .ok (.iload_n 3, 1) := by decide +kernel
theorem dX7_keepers_93 : decode cX7_keepers 93 = .ok (.aload_n 0, 1) := by decide +kernel
theorem dX7_keepers_94 : decode cX7_keepers 94 = .ok (.getfield 117, 3) := by decide +kernel
theorem dX7_keepers_97 : decode cX7_keepers 97 = .ok (.if_icmp .ge 21, 3) := by decide +kernel
theorem dX7_keepers_100 : decode cX7_keepers 100 = .ok (.aload_n 0, 1) := by decide +kernel
theorem dX7_keepers_101 : decode cX7_keepers 101 = .ok (.getfield 56, 3) := by decide +kernel
theorem dX7_keepers_104 : decode cX7_keepers 104 = .ok (.iload_n 3, 1) := by decide +kernel
theorem dX7_keepers_105 : decode cX7_keepers 105 = .ok (.aload_n 0, 1) := by decide +kernel
theorem dX7_keepers_106 : decode cX7_keepers 106 = .ok (.getfield 108, 3) := by decide +kernel
theorem dX7_keepers_109 : decode cX7_keepers 109 = .ok (.iload_n 3, 1) := by decide +kernel
theorem dX7_keepers_110 : decode cX7_keepers 110 = .ok (.iaload, 1) := by decide +kernel
theorem dX7_keepers_111 : decode cX7_keepers 111 = .ok (.iastore, 1) := by decide +kernel
theorem dX7_keepers_112 : decode cX7_keepers 112 = .ok (.iinc 3 1, 3) := by decide +kernel
theorem dX7_keepers_115 : decode cX7_keepers 115 = .ok (.goto (-23), 3) := by decide +kernel
theorem dX7_keepers_118 : decode cX7_keepers 118 = .ok (.iload_n 2, 1) := by decide +kernel
theorem dX7_keepers_119 : decode cX7_keepers 119 = .ok (.iconst (-1), 1) := by decide +kernel
theorem dX7_keepers_120 : decode cX7_keepers 120 = .ok (.if_icmp .ne 10, 3) := by decide +kernel
theorem dX7_keepers_123 : decode cX7_keepers 123 = .ok (.aload_n 0, 1) := by decide +kernel
theorem dX7_keepers_124 : decode cX7_keepers 124 = .ok (.getfield 274, 3) := by decide +kernel
theorem dX7_keepers_127 : decode cX7_keepers 127 = .ok (.goto 9, 3) := by decide +kernel
theorem dX7_keepers_130 : decode cX7_keepers 130 = .ok (.aload_n 0, 1) := by decide +kernel
theorem dX7_keepers_131 : decode cX7_keepers 131 = .ok (.getfield 105, 3) := by decide +kernel
theorem dX7_keepers_134 : decode cX7_keepers 134 = .ok (.iload_n 2, 1) := by decide +kernel
theorem dX7_keepers_135 : decode cX7_keepers 135 = .ok (.iaload, 1) := by decide +kernel
theorem dX7_keepers_136 : decode cX7_keepers 136 = .ok (.ireturn, 1) := by decide +kernel
theorem dX7_bored_0 : decode cX7_bored 0 = .ok (.aload_n 0, 1) := by decide +kernel
theorem dX7_bored_1 : decode cX7_bored 1 = .ok (.getfield 117, 3) := by decide +kernel
theorem dX7_bored_4 : decode cX7_bored 4 = .ok (.ifCond .ne 10, 3) := by decide +kernel
theorem dX7_bored_7 : decode cX7_bored 7 = .ok (.aload_n 0, 1) := by decide +kernel
theorem dX7_bored_8 : decode cX7_bored 8 = .ok (.bipush (-5), 2) := by decide +kernel
theorem dX7_bored_10 : decode cX7_bored 10 = .ok (.invokevirtual 124, 3) := by decide +kernel
theorem dX7_bored_13 : decode cX7_bored 13 = .ok (.ireturn, 1) := by decide +kernel
theorem dX7_bored_14 : decode cX7_bored 14 = .ok (.aload_n 0, 1) := by decide +kernel
theorem dX7_bored_15 : decode cX7_bored 15 = .ok (.iload_n 1, 1) := by decide +kernel
theorem dX7_bored_16 : decode cX7_bored 16 = .ok (.iload_n 2, 1) := by decide +kernel
theorem dX7_bored_17 : decode cX7_bored 17 = .ok (.invokevirtual 256, 3) := by decide +kernel
theorem dX7_bored_20 : decode cX7_bored 20 = .ok (.ifCond .ne 10, 3) := by decide +kernel
theorem dX7_bored_23 : decode cX7_bored 23 = .ok (.aload_n 0, 1) := by decide +kernel
theorem dX7_bored_24 : decode cX7_bored 24 = .ok (.bipush (-6), 2) := by decide +kernel
theorem dX7_bored_26 : decode cX7_bored 26 = .ok (.invokevirtual 124, 3) := by decide +kernel
theorem dX7_bored_29 : decode cX7_bored 29 = .ok (.ireturn, 1) := by decide +kernel
theorem dX7_bored_30 : decode cX7_bored 30 = .ok (.aload_n 0, 1) := by decide +kernel
theorem dX7_bored_31 : decode cX7_bored 31 = .ok (.iload_n 1, 1) := by decide +kernel
theorem dX7_bored_32 : decode cX7_bored 32 = .ok (.iload_n 2, 1) := by decide +kernel
theorem dX7_bored_33 : decode cX7_bored 33 = .ok (.invokevirtual 259, 3) := by decide +kernel
theorem dX7_bored_36 : decode cX7_bored 36 = .ok (.iconst 0, 1) := by decide +kernel
theorem dX7_bored_37 : decode cX7_bored 37 = .ok (.istore_n 3, 1) := by decide +kernel
theorem dX7_bored_38 : decode cX7_bored 38 = .ok (.iconst 1, 1) := by decide +kernel
theorem dX7_bored_39 : decode cX7_bored 39 = .ok (.istore 4, 2) := by decide +kernel
theorem dX7_bored_41 : decode cX7_bored 41 = .ok (.iload 4, 2) := by decide +kernel
theorem dX7_bored_43 : decode cX7_bored 43 = .ok (.aload_n 0, 1) := by decide +kernel
theorem dX7_bored_44 : decode cX7_bored 44 = .ok (.getfield 117, 3) := by decide +kernel
theorem dX7_bored_47 : decode cX7_bored 47 = .ok (.if_icmp .ge 28, 3) := by decide +kernel
theorem dX7_bored_50 : decode cX7_bored 50 = .ok (.aload_n 0, 1) := by decide +kernel
theorem dX7_bored_51 : decode cX7_bored 51 = .ok (.getfield 53, 3) := by decide +kernel
theorem dX7_bored_54 : decode cX7_bored 54 = .ok (.iload 4, 2) := by decide +kernel
theorem dX7_bored_56 : decode cX7_bored 56 = .ok (.iaload, 1) := by decide +kernel
theorem dX7_bored_57 : decode cX7_bored 57 = .ok (.aload_n 0, 1) := by decide +kernel
theorem dX7_bored_58 : decode cX7_bored 58 = .ok (.getfield 53, 3) := by decide +kernel
theorem dX7_bored_61 : decode cX7_bored 61 = .ok (.iload_n 3, 1) := by decide +kernel
theorem dX7_bored_62 : decode cX7_bored 62 = .ok (.iaload, 1) := by decide +kernel
theorem dX7_bored_63 : decode cX7_bored 63 = .ok (.if_icmp .ge 6, 3) := by decide +kernel
theorem dX7_bored_66 : decode cX7_bored 66 = .ok (.iload 4, 2) := by decide +kernel
theorem dX7_bored_68 : decode cX7_bored 68 = .ok (.istore_n 3, 1) := by decide +kernel
theorem dX7_bored_69 : decode cX7_bored 69 = .ok (.iinc 4 1, 3) := by decide +kernel
theorem dX7_bored_72 : decode cX7_bored 72 = .ok (.goto (-31), 3) := by decide +kernel
theorem dX7_bored_75 : decode cX7_bored 75 = .ok (.aload_n 0, 1) := by decide +kernel
theorem dX7_bored_76 : decode cX7_bored 76 = .ok (.invokevirtual 262, 3) := by decide +kernel
theorem dX7_bored_79 : decode cX7_bored 79 = .ok (.iload_n 3, 1) := by decide +kernel
theorem dX7_bored_80 : decode cX7_bored 80 = .ok (.ireturn, 1) := by decide +kernel
theorem dX7_bank_0 : decode cX7_bank 0 = .ok (.iload_n 1, 1) := by decide +kernel
theorem dX7_bank_1 : decode cX7_bank 1 = .ok (.ifCond .lt 10, 3) := by decide +kernel
theorem dX7_bank_4 : decode cX7_bank 4 = .ok (.iload_n 1, 1) := by decide +kernel
theorem dX7_bank_5 : decode cX7_bank 5 = .ok (.sipush 240, 3) := by decide +kernel
theorem dX7_bank_8 : decode cX7_bank 8 = .ok (.if_icmp .le 10, 3) := by decide +kernel
theorem dX7_bank_11 : decode cX7_bank 11 = .ok (.aload_n 0, 1) := by decide +kernel
theorem dX7_bank_12 : decode cX7_bank 12 = .ok (.bipush (-6), 2) := by decide +kernel
theorem dX7_bank_14 : decode cX7_bank 14 = .ok (.invokevirtual 124, 3) := by decide +kernel
theorem dX7_bank_17 : decode cX7_bank 17 = .ok (.ireturn, 1) := by decide +kernel
theorem dX7_bank_18 : decode cX7_bank 18 = .ok (.aload_n 0, 1) := by decide +kernel
theorem dX7_bank_19 : decode cX7_bank 19 = .ok (.iconst 0, 1) := by decide +kernel
theorem dX7_bank_20 : decode cX7_bank 20 = .ok (.iload_n 1, 1) := by decide +kernel
theorem dX7_bank_21 : decode cX7_bank 21 = .ok (.invokevirtual 259, 3) := by decide +kernel
theorem dX7_bank_24 : decode cX7_bank 24 = .ok (.iconst 0, 1) := by decide +kernel
theorem dX7_bank_25 : decode cX7_bank 25 = .ok (.istore_n 2, 1) := by decide +kernel
theorem dX7_bank_26 : decode cX7_bank 26 = .ok (.iconst 0, 1) := by decide +kernel
theorem dX7_bank_27 : decode cX7_bank 27 = .ok (.istore_n 3, 1) := by decide +kernel
theorem dX7_bank_28 : decode cX7_bank 28 = .ok (.iload_n 3, 1) := by decide +kernel
theorem dX7_bank_29 : decode cX7_bank 29 = .ok (.aload_n 0, 1) := by decide +kernel
theorem dX7_bank_30 : decode cX7_bank 30 = .ok (.getfield 117, 3) := by decide +kernel
theorem dX7_bank_33 : decode cX7_bank 33 = .ok (.if_icmp .ge 30, 3) := by decide +kernel
theorem dX7_bank_36 : decode cX7_bank 36 = .ok (.aload_n 0, 1) := by decide +kernel
theorem dX7_bank_37 : decode cX7_bank 37 = .ok (.getfield 44, 3) := by decide +kernel
theorem dX7_bank_40 : decode cX7_bank 40 = .ok (.iload_n 3, 1) := by decide +kernel
theorem dX7_bank_41 : decode cX7_bank 41 = .ok (.iaload, 1) := by decide +kernel
theorem dX7_bank_42 : decode cX7_bank 42 = .ok (.iload_n 2, 1) := by decide +kernel
theorem dX7_bank_43 : decode cX7_bank 43 = .ok (.if_icmp .le 12, 3) := by decide +kernel
theorem dX7_bank_46 : decode cX7_bank 46 = .ok (.aload_n 0, 1) := by decide +kernel
theorem dX7_bank_47 : decode cX7_bank 47 = .ok (.getfield 44, 3) := by decide +kernel
theorem dX7_bank_50 : decode cX7_bank 50 = .ok (.iload_n 3, 1) := by decide +kernel
theorem dX7_bank_51 : decode cX7_bank 51 = .ok (.iaload, 1) := by decide +kernel
theorem dX7_bank_52 : decode cX7_bank 52 = .ok (.goto 4, 3) := by decide +kernel
theorem dX7_bank_55 : decode cX7_bank 55 = .ok (.iload_n 2, 1) := by decide +kernel
theorem dX7_bank_56 : decode cX7_bank 56 = .ok (.istore_n 2, 1) := by decide +kernel
theorem dX7_bank_57 : decode cX7_bank 57 = .ok (.iinc 3 1, 3) := by decide +kernel
theorem dX7_bank_60 : decode cX7_bank 60 = .ok (.goto (-32), 3) := by decide +kernel
theorem dX7_bank_63 : decode cX7_bank 63 = .ok (.aload_n 0, 1) := by decide +kernel
theorem dX7_bank_64 : decode cX7_bank 64 = .ok (.invokevirtual 262, 3) := by decide +kernel
theorem dX7_bank_67 : decode cX7_bank 67 = .ok (.iload_n 2, 1) := by decide +kernel
theorem dX7_bank_68 : decode cX7_bank 68 = .ok (.ireturn, 1) := by decide +kernel
theorem dX7_rot_0 : decode cX7_rot 0 = .ok (.aload_n 0, 1) := by decide +kernel
theorem dX7_rot_1 : decode cX7_rot 1 = .ok (.iload_n 1, 1) := by decide +kernel
theorem dX7_rot_2 : decode cX7_rot 2 = .ok (.iload_n 2, 1) := by decide +kernel
theorem dX7_rot_3 : decode cX7_rot 3 = .ok (.invokevirtual 256, 3) := by decide +kernel
theorem dX7_rot_6 : decode cX7_rot 6 = .ok (.ifCond .ne 10, 3) := by decide +kernel
theorem dX7_rot_9 : decode cX7_rot 9 = .ok (.aload_n 0, 1) := by decide +kernel
theorem dX7_rot_10 : decode cX7_rot 10 = .ok (.bipush (-6), 2) := by decide +kernel
theorem dX7_rot_12 : decode cX7_rot 12 = .ok (.invokevirtual 124, 3) := by decide +kernel
theorem dX7_rot_15 : decode cX7_rot 15 = .ok (.ireturn, 1) := by decide +kernel
theorem dX7_rot_16 : decode cX7_rot 16 = .ok (.aload_n 0, 1) := by decide +kernel
theorem dX7_rot_17 : decode cX7_rot 17 = .ok (.iload_n 1, 1) := by decide +kernel
theorem dX7_rot_18 : decode cX7_rot 18 = .ok (.iload_n 2, 1) := by decide +kernel
theorem dX7_rot_19 : decode cX7_rot 19 = .ok (.invokevirtual 259, 3) := by decide +kernel
theorem dX7_rot_22 : decode cX7_rot 22 = .ok (.aload_n 0, 1) := by decide +kernel
theorem dX7_rot_23 : decode cX7_rot 23 = .ok (.invokevirtual 191, 3) := by decide +kernel
theorem dX7_rot_26 : decode cX7_rot 26 = .ok (.istore_n 3, 1) := by decide +kernel
theorem dX7_rot_27 : decode cX7_rot 27 = .ok (.aload_n 0, 1) := by decide +kernel
theorem dX7_rot_28 : decode cX7_rot 28 = .ok (.invokevirtual 262, 3) := by decide +kernel
theorem dX7_rot_31 : decode cX7_rot 31 = .ok (.iload_n 3, 1) := by decide +kernel
theorem dX7_rot_32 : decode cX7_rot 32 = .ok (.ireturn, 1) := by decide +kernel
theorem dX7_trust_0 : decode cX7_trust 0 = .ok (.aload_n 0, 1) := by decide +kernel
theorem dX7_trust_1 : decode cX7_trust 1 = .ok (.iload_n 1, 1) := by decide +kernel
theorem dX7_trust_2 : decode cX7_trust 2 = .ok (.invokevirtual 142, 3) := by decide +kernel
theorem dX7_trust_5 : decode cX7_trust 5 = .ok (.ifCond .eq 11, 3) := by decide +kernel
theorem dX7_trust_8 : decode cX7_trust 8 = .ok (.aload_n 0, 1) := by decide +kernel
theorem dX7_trust_9 : decode cX7_trust 9 = .ok (.iload_n 2, 1) := by decide +kernel
theorem dX7_trust_10 : decode cX7_trust 10 = .ok (.invokevirtual 128, 3) := by decide +kernel
theorem dX7_trust_13 : decode cX7_trust 13 = .ok (.ifCond .ne 9, 3) := by decide +kernel
theorem dX7_trust_16 : decode cX7_trust 16 = .ok (.aload_n 0, 1) := by decide +kernel
theorem dX7_trust_17 : decode cX7_trust 17 = .ok (.iconst (-1), 1) := by decide +kernel
theorem dX7_trust_18 : decode cX7_trust 18 = .ok (.invokevirtual 145, 3) := by decide +kernel
theorem dX7_trust_21 : decode cX7_trust 21 = .ok (.ireturn, 1) := by decide +kernel
theorem dX7_trust_22 : decode cX7_trust 22 = .ok (.aload_n 0, 1) := by decide +kernel
theorem dX7_trust_23 : decode cX7_trust 23 = .ok (.getfield 44, 3) := by decide +kernel
theorem dX7_trust_26 : decode cX7_trust 26 = .ok (.iload_n 1, 1) := by decide +kernel
theorem dX7_trust_27 : decode cX7_trust 27 = .ok (.iaload, 1) := by decide +kernel
theorem dX7_trust_28 : decode cX7_trust 28 = .ok (.istore_n 3, 1) := by decide +kernel
theorem dX7_trust_29 : decode cX7_trust 29 = .ok (.aload_n 0, 1) := by decide +kernel
theorem dX7_trust_30 : decode cX7_trust 30 = .ok (.getfield 13, 3) := by decide +kernel
theorem dX7_trust_33 : decode cX7_trust 33 = .ok (.istore 4, 2) := by decide +kernel
theorem dX7_trust_35 : decode cX7_trust 35 = .ok (.iconst 0, 1) := by decide +kernel
theorem dX7_trust_36 : decode cX7_trust 36 = .ok (.istore 5, 2) := by decide +kernel
theorem dX7_trust_38 : decode cX7_trust 38 = .ok (.iload 5, 2) := by decide +kernel
theorem dX7_trust_40 : decode cX7_trust 40 = .ok (.sipush 240, 3) := by decide +kernel
theorem dX7_trust_43 : decode cX7_trust 43 = .ok (.if_icmp .gt 61, 3) := by decide +kernel
theorem dX7_trust_46 : decode cX7_trust 46 = .ok (.iload_n 3, 1) := by decide +kernel
theorem dX7_trust_47 : decode cX7_trust 47 = .ok (.aload_n 0, 1) := by decide +kernel
theorem dX7_trust_48 : decode cX7_trust 48 = .ok (.iload_n 2, 1) := by decide +kernel
theorem dX7_trust_49 : decode cX7_trust 49 = .ok (.invokevirtual 131, 3) := by decide +kernel
theorem dX7_trust_52 : decode cX7_trust 52 = .ok (.if_icmp .lt 6, 3) := by decide +kernel
theorem dX7_trust_55 : decode cX7_trust 55 = .ok (.iload 5, 2) := by decide +kernel
theorem dX7_trust_57 : decode cX7_trust 57 = .ok (.ireturn, 1) := by decide +kernel
theorem dX7_trust_58 : decode cX7_trust 58 = .ok (.aload_n 0, 1) := by decide +kernel
theorem dX7_trust_59 : decode cX7_trust 59 = .ok (.getfield 41, 3) := by decide +kernel
theorem dX7_trust_62 : decode cX7_trust 62 = .ok (.iload_n 1, 1) := by decide +kernel
theorem dX7_trust_63 : decode cX7_trust 63 = .ok (.iaload, 1) := by decide +kernel
theorem dX7_trust_64 : decode cX7_trust 64 = .ok (.iload 4, 2) := by decide +kernel
theorem dX7_trust_66 : decode cX7_trust 66 = .ok (.if_icmp .ge 12, 3) := by decide +kernel
theorem dX7_trust_69 : decode cX7_trust 69 = .ok (.aload_n 0, 1) := by decide +kernel
theorem dX7_trust_70 : decode cX7_trust 70 = .ok (.getfield 41, 3) := by decide +kernel
theorem dX7_trust_73 : decode cX7_trust 73 = .ok (.iload_n 1, 1) := by decide +kernel
theorem dX7_trust_74 : decode cX7_trust 74 = .ok (.iaload, 1) := by decide +kernel
theorem dX7_trust_75 : decode cX7_trust 75 = .ok (.goto 5, 3) := by decide +kernel
theorem dX7_trust_78 : decode cX7_trust 78 = .ok (.iload 4, 2) := by decide +kernel
theorem dX7_trust_80 : decode cX7_trust 80 = .ok (.istore 6, 2) := by decide +kernel
theorem dX7_trust_82 : decode cX7_trust 82 = .ok (.iload 4, 2) := by decide +kernel
theorem dX7_trust_84 : decode cX7_trust 84 = .ok (.iload 6, 2) := by decide +kernel
theorem dX7_trust_86 : decode cX7_trust 86 = .ok (.isub, 1) := by decide +kernel
theorem dX7_trust_87 : decode cX7_trust 87 = .ok (.istore 4, 2) := by decide +kernel
theorem dX7_trust_89 : decode cX7_trust 89 = .ok (.aload_n 0, 1) := by decide +kernel
theorem dX7_trust_90 : decode cX7_trust 90 = .ok (.iload_n 3, 1) := by decide +kernel
theorem dX7_trust_91 : decode cX7_trust 91 = .ok (.iload 6, 2) := by decide +kernel
theorem dX7_trust_93 : decode cX7_trust 93 = .ok (.iadd, 1) := by decide +kernel
theorem dX7_trust_94 : decode cX7_trust 94 = .ok (.invokevirtual 225, 3) := by decide +kernel
theorem dX7_trust_97 : decode cX7_trust 97 = .ok (.istore_n 3, 1) := by decide +kernel
theorem dX7_trust_98 : decode cX7_trust 98 = .ok (.iinc 5 1, 3) := by decide +kernel
theorem dX7_trust_101 : decode cX7_trust 101 = .ok (.goto (-63), 3) := by decide +kernel
theorem dX7_trust_104 : decode cX7_trust 104 = .ok (.iconst (-1), 1) := by decide +kernel
theorem dX7_trust_105 : decode cX7_trust 105 = .ok (.ireturn, 1) := by decide +kernel
theorem dX7_wrongIn_0 : decode cX7_wrongIn 0 = .ok (.aload_n 0, 1) := by decide +kernel
theorem dX7_wrongIn_1 : decode cX7_wrongIn 1 = .ok (.getfield 117, 3) := by decide +kernel
theorem dX7_wrongIn_4 : decode cX7_wrongIn 4 = .ok (.ifCond .ne 7, 3) := by decide +kernel
theorem dX7_wrongIn_7 : decode cX7_wrongIn 7 = .ok (.iconst 0, 1) := by decide +kernel
theorem dX7_wrongIn_8 : decode cX7_wrongIn 8 = .ok (.goto 9, 3) := by decide +kernel
theorem dX7_wrongIn_11 : decode cX7_wrongIn 11 = .ok (.iload_n 2, 1) := by decide +kernel
theorem dX7_wrongIn_12 : decode cX7_wrongIn 12 = .ok (.aload_n 0, 1) := by decide +kernel
theorem dX7_wrongIn_13 : decode cX7_wrongIn 13 = .ok (.getfield 117, 3) := by decide +kernel
theorem dX7_wrongIn_16 : decode cX7_wrongIn 16 = .ok (.idiv, 1) := by decide +kernel
theorem dX7_wrongIn_17 : decode cX7_wrongIn 17 = .ok (.istore_n 3, 1) := by decide +kernel
theorem dX7_wrongIn_18 : decode cX7_wrongIn 18 = .ok (.iconst 0, 1) := by decide +kernel
theorem dX7_wrongIn_19 : decode cX7_wrongIn 19 = .ok (.istore 4, 2) := by decide +kernel
theorem dX7_wrongIn_21 : decode cX7_wrongIn 21 = .ok (.iload 4, 2) := by decide +kernel
theorem dX7_wrongIn_23 : decode cX7_wrongIn 23 = .ok (.iload_n 3, 1) := by decide +kernel
theorem dX7_wrongIn_24 : decode cX7_wrongIn 24 = .ok (.if_icmp .ge 82, 3) := by decide +kernel
theorem dX7_wrongIn_27 : decode cX7_wrongIn 27 = .ok (.aload_n 0, 1) := by decide +kernel
theorem dX7_wrongIn_28 : decode cX7_wrongIn 28 = .ok (.invokevirtual 234, 3) := by decide +kernel
theorem dX7_wrongIn_31 : decode cX7_wrongIn 31 = .ok (.iconst 0, 1) := by decide +kernel
theorem dX7_wrongIn_32 : decode cX7_wrongIn 32 = .ok (.istore 5, 2) := by decide +kernel
theorem dX7_wrongIn_34 : decode cX7_wrongIn 34 = .ok (.iload 5, 2) := by decide +kernel
theorem dX7_wrongIn_36 : decode cX7_wrongIn 36 = .ok (.aload_n 0, 1) := by decide +kernel
theorem dX7_wrongIn_37 : decode cX7_wrongIn 37 = .ok (.getfield 117, 3) := by decide +kernel
theorem dX7_wrongIn_40 : decode cX7_wrongIn 40 = .ok (.if_icmp .ge 56, 3) := by decide +kernel
theorem dX7_wrongIn_43 : decode cX7_wrongIn 43 = .ok (.aload_n 0, 1) := by decide +kernel
theorem dX7_wrongIn_44 : decode cX7_wrongIn 44 = .ok (.iload_n 1, 1) := by decide +kernel
theorem dX7_wrongIn_45 : decode cX7_wrongIn 45 = .ok (.aload_n 0, 1) := by decide +kernel
theorem dX7_wrongIn_46 : decode cX7_wrongIn 46 = .ok (.getfield 117, 3) := by decide +kernel
theorem dX7_wrongIn_49 : decode cX7_wrongIn 49 = .ok (.iload 4, 2) := by decide +kernel
theorem dX7_wrongIn_51 : decode cX7_wrongIn 51 = .ok (.imul, 1) := by decide +kernel
theorem dX7_wrongIn_52 : decode cX7_wrongIn 52 = .ok (.iload 5, 2) := by decide +kernel
theorem dX7_wrongIn_54 : decode cX7_wrongIn 54 = .ok (.iadd, 1) := by decide +kernel
theorem dX7_wrongIn_55 : decode cX7_wrongIn 55 = .ok (.invokevirtual 281, 3) := by decide +kernel
theorem dX7_wrongIn_58 : decode cX7_wrongIn 58 = .ok (.istore 6, 2) := by decide +kernel
theorem dX7_wrongIn_60 : decode cX7_wrongIn 60 = .ok (.aload_n 0, 1) := by decide +kernel
theorem dX7_wrongIn_61 : decode cX7_wrongIn 61 = .ok (.iload 5, 2) := by decide +kernel
theorem dX7_wrongIn_63 : decode cX7_wrongIn 63 = .ok (.iload 6, 2) := by decide +kernel
theorem dX7_wrongIn_65 : decode cX7_wrongIn 65 = .ok (.invokevirtual 170, 3) := by decide +kernel
theorem dX7_wrongIn_68 : decode cX7_wrongIn 68 = .ok (.ifCond .ne 14, 3) := by decide +kernel
theorem dX7_wrongIn_71 : decode cX7_wrongIn 71 = .ok (.aload_n 0, 1) := by decide +kernel
theorem dX7_wrongIn_72 : decode cX7_wrongIn 72 = .ok (.getfield 117, 3) := by decide +kernel
theorem dX7_wrongIn_75 : decode cX7_wrongIn 75 = .ok (.iload 4, 2) := by decide +kernel
theorem dX7_wrongIn_77 : decode cX7_wrongIn 77 = .ok (.imul, 1) := by decide +kernel
theorem dX7_wrongIn_78 : decode cX7_wrongIn 78 = .ok (.iload 5, 2) := by decide +kernel
theorem dX7_wrongIn_80 : decode cX7_wrongIn 80 = .ok (.iadd, 1) := by decide +kernel
theorem dX7_wrongIn_81 : decode cX7_wrongIn 81 = .ok (.ireturn, 1) := by decide +kernel
theorem dX7_wrongIn_82 : decode cX7_wrongIn 82 = .ok (.aload_n 0, 1) := by decide +kernel
theorem dX7_wrongIn_83 : decode cX7_wrongIn 83 = .ok (.iload 5, 2) := by decide +kernel
theorem dX7_wrongIn_85 : decode cX7_wrongIn 85 = .ok (.iload 6, 2) := by decide +kernel
theorem dX7_wrongIn_87 : decode cX7_wrongIn 87 = .ok (.invokevirtual 187, 3) := by decide +kernel
theorem dX7_wrongIn_90 : decode cX7_wrongIn 90 = .ok (.iinc 5 1, 3) := by decide +kernel
theorem dX7_wrongIn_93 : decode cX7_wrongIn 93 = .ok (.goto (-59), 3) := by decide +kernel
theorem dX7_wrongIn_96 : decode cX7_wrongIn 96 = .ok (.aload_n 0, 1) := by decide +kernel
theorem dX7_wrongIn_97 : decode cX7_wrongIn 97 = .ok (.invokevirtual 240, 3) := by decide +kernel
theorem dX7_wrongIn_100 : decode cX7_wrongIn 100 = .ok (.iinc 4 1, 3) := by decide +kernel
theorem dX7_wrongIn_103 : decode cX7_wrongIn 103 = .ok (.goto (-82), 3) := by decide +kernel
theorem dX7_wrongIn_106 : decode cX7_wrongIn 106 = .ok (.iconst (-1), 1) := by decide +kernel
theorem dX7_wrongIn_107 : decode cX7_wrongIn 107 = .ok (.ireturn, 1) := by decide +kernel
theorem dX7_barsOf_0 : decode cX7_barsOf 0 = .ok (.aload_n 0, 1) := by decide +kernel
theorem dX7_barsOf_1 : decode cX7_barsOf 1 = .ok (.iload_n 1, 1) := by decide +kernel
theorem dX7_barsOf_2 : decode cX7_barsOf 2 = .ok (.invokevirtual 207, 3) := by decide +kernel
theorem dX7_barsOf_5 : decode cX7_barsOf 5 = .ok (.istore_n 3, 1) := by decide +kernel
theorem dX7_barsOf_6 : decode cX7_barsOf 6 = .ok (.iload_n 3, 1) := by decide +kernel
theorem dX7_barsOf_7 : decode cX7_barsOf 7 = .ok (.ifCond .eq 5, 3) := by decide +kernel
theorem dX7_barsOf_10 : decode cX7_barsOf 10 = .ok (.iload_n 3, 1) := by decide +kernel
theorem dX7_barsOf_11 : decode cX7_barsOf 11 = .ok (.ireturn, 1) := by decide +kernel
theorem dX7_barsOf_12 : decode cX7_barsOf 12 = .ok (.iload_n 2, 1) := by decide +kernel
theorem dX7_barsOf_13 : decode cX7_barsOf 13 = .ok (.ifCond .ge 8, 3) := by decide +kernel
theorem dX7_barsOf_16 : decode cX7_barsOf 16 = .ok (.bipush (-4), 2) := by decide +kernel
theorem dX7_barsOf_18 : decode cX7_barsOf 18 = .ok (.goto 19, 3) := by decide +kernel
theorem dX7_barsOf_21 : decode cX7_barsOf 21 = .ok (.iload_n 2, 1) := by decide +kernel
theorem dX7_barsOf_22 : decode cX7_barsOf 22 = .ok (.aload_n 0, 1) := by decide +kernel
theorem dX7_barsOf_23 : decode cX7_barsOf 23 = .ok (.getfield 65, 3) := by decide +kernel
theorem dX7_barsOf_26 : decode cX7_barsOf 26 = .ok (.iload_n 1, 1) := by decide +kernel
theorem dX7_barsOf_27 : decode cX7_barsOf 27 = .ok (.iaload, 1) := by decide +kernel
theorem dX7_barsOf_28 : decode cX7_barsOf 28 = .ok (.if_icmp .le 8, 3) := by decide +kernel
theorem dX7_barsOf_31 : decode cX7_barsOf 31 = .ok (.bipush (-5), 2) := by decide +kernel
theorem dX7_barsOf_33 : decode cX7_barsOf 33 = .ok (.goto 4, 3) := by decide +kernel
theorem dX7_barsOf_36 : decode cX7_barsOf 36 = .ok (.iconst 0, 1) := by decide +kernel
theorem dX7_barsOf_37 : decode cX7_barsOf 37 = .ok (.ireturn, 1) := by decide +kernel
theorem dX7_judge_0 : decode cX7_judge 0 = .ok (.aload_n 0, 1) := by decide +kernel
theorem dX7_judge_1 : decode cX7_judge 1 = .ok (.iload_n 1, 1) := by decide +kernel
theorem dX7_judge_2 : decode cX7_judge 2 = .ok (.iload_n 2, 1) := by decide +kernel
theorem dX7_judge_3 : decode cX7_judge 3 = .ok (.invokevirtual 284, 3) := by decide +kernel
theorem dX7_judge_6 : decode cX7_judge 6 = .ok (.istore_n 3, 1) := by decide +kernel
theorem dX7_judge_7 : decode cX7_judge 7 = .ok (.iload_n 3, 1) := by decide +kernel
theorem dX7_judge_8 : decode cX7_judge 8 = .ok (.ifCond .eq 9, 3) := by decide +kernel
theorem dX7_judge_11 : decode cX7_judge 11 = .ok (.aload_n 0, 1) := by decide +kernel
theorem dX7_judge_12 : decode cX7_judge 12 = .ok (.iload_n 3, 1) := by decide +kernel
theorem dX7_judge_13 : decode cX7_judge 13 = .ok (.invokevirtual 145, 3) := by decide +kernel
theorem dX7_judge_16 : decode cX7_judge 16 = .ok (.ireturn, 1) := by decide +kernel
theorem dX7_judge_17 : decode cX7_judge 17 = .ok (.aload_n 0, 1) := by decide +kernel
theorem dX7_judge_18 : decode cX7_judge 18 = .ok (.aload_n 0, 1) := by decide +kernel
theorem dX7_judge_19 : decode cX7_judge 19 = .ok (.getfield 93, 3) := by decide +kernel
theorem dX7_judge_22 : decode cX7_judge 22 = .ok (.iconst 0, 1) := by decide +kernel
theorem dX7_judge_23 : decode cX7_judge 23 = .ok (.invokevirtual 210, 3) := by decide +kernel
theorem dX7_judge_26 : decode cX7_judge 26 = .ok (.aload_n 0, 1) := by decide +kernel
theorem dX7_judge_27 : decode cX7_judge 27 = .ok (.iload_n 1, 1) := by decide +kernel
theorem dX7_judge_28 : decode cX7_judge 28 = .ok (.iload_n 2, 1) := by decide +kernel
theorem dX7_judge_29 : decode cX7_judge 29 = .ok (.invokevirtual 287, 3) := by decide +kernel
theorem dX7_judge_32 : decode cX7_judge 32 = .ok (.istore 4, 2) := by decide +kernel
theorem dX7_judge_34 : decode cX7_judge 34 = .ok (.aload_n 0, 1) := by decide +kernel
theorem dX7_judge_35 : decode cX7_judge 35 = .ok (.invokevirtual 262, 3) := by decide +kernel
theorem dX7_judge_38 : decode cX7_judge 38 = .ok (.iload 4, 2) := by decide +kernel
theorem dX7_judge_40 : decode cX7_judge 40 = .ok (.ireturn, 1) := by decide +kernel
theorem dX7_told_0 : decode cX7_told 0 = .ok (.aload_n 0, 1) := by decide +kernel
theorem dX7_told_1 : decode cX7_told 1 = .ok (.iload_n 1, 1) := by decide +kernel
theorem dX7_told_2 : decode cX7_told 2 = .ok (.iload_n 2, 1) := by decide +kernel
theorem dX7_told_3 : decode cX7_told 3 = .ok (.invokevirtual 284, 3) := by decide +kernel
theorem dX7_told_6 : decode cX7_told 6 = .ok (.istore 4, 2) := by decide +kernel
theorem dX7_told_8 : decode cX7_told 8 = .ok (.iload 4, 2) := by decide +kernel
theorem dX7_told_10 : decode cX7_told 10 = .ok (.ifCond .ne 27, 3) := by decide +kernel
theorem dX7_told_13 : decode cX7_told 13 = .ok (.iload_n 3, 1) := by decide +kernel
theorem dX7_told_14 : decode cX7_told 14 = .ok (.ifCond .eq 23, 3) := by decide +kernel
theorem dX7_told_17 : decode cX7_told 17 = .ok (.iload_n 3, 1) := by decide +kernel
theorem dX7_told_18 : decode cX7_told 18 = .ok (.iconst 1, 1) := by decide +kernel
theorem dX7_told_19 : decode cX7_told 19 = .ok (.if_icmp .eq 18, 3) := by decide +kernel
theorem dX7_told_22 : decode cX7_told 22 = .ok (.aload_n 0, 1) := by decide +kernel
theorem dX7_told_23 : decode cX7_told 23 = .ok (.iload_n 3, 1) := by decide +kernel
theorem dX7_told_24 : decode cX7_told 24 = .ok (.bipush 10, 2) := by decide +kernel
theorem dX7_told_26 : decode cX7_told 26 = .ok (.isub, 1) := by decide +kernel
theorem dX7_told_27 : decode cX7_told 27 = .ok (.invokevirtual 142, 3) := by decide +kernel
theorem dX7_told_30 : decode cX7_told 30 = .ok (.ifCond .ne 7, 3) := by decide +kernel
theorem dX7_told_33 : decode cX7_told 33 = .ok (.bipush (-5), 2) := by decide +kernel
theorem dX7_told_35 : decode cX7_told 35 = .ok (.istore 4, 2) := by decide +kernel
theorem dX7_told_37 : decode cX7_told 37 = .ok (.iload 4, 2) := by decide +kernel
theorem dX7_told_39 : decode cX7_told 39 = .ok (.ifCond .eq 10, 3) := by decide +kernel
theorem dX7_told_42 : decode cX7_told 42 = .ok (.aload_n 0, 1) := by decide +kernel
theorem dX7_told_43 : decode cX7_told 43 = .ok (.iload 4, 2) := by decide +kernel
theorem dX7_told_45 : decode cX7_told 45 = .ok (.invokevirtual 124, 3) := by decide +kernel
theorem dX7_told_48 : decode cX7_told 48 = .ok (.ireturn, 1) := by decide +kernel
theorem dX7_told_49 : decode cX7_told 49 = .ok (.aload_n 0, 1) := by decide +kernel
theorem dX7_told_50 : decode cX7_told 50 = .ok (.aload_n 0, 1) := by decide +kernel
theorem dX7_told_51 : decode cX7_told 51 = .ok (.getfield 93, 3) := by decide +kernel
theorem dX7_told_54 : decode cX7_told 54 = .ok (.iconst 0, 1) := by decide +kernel
theorem dX7_told_55 : decode cX7_told 55 = .ok (.invokevirtual 210, 3) := by decide +kernel
theorem dX7_told_58 : decode cX7_told 58 = .ok (.aload_n 0, 1) := by decide +kernel
theorem dX7_told_59 : decode cX7_told 59 = .ok (.getfield 204, 3) := by decide +kernel
theorem dX7_told_62 : decode cX7_told 62 = .ok (.istore 5, 2) := by decide +kernel
theorem dX7_told_64 : decode cX7_told 64 = .ok (.aload_n 0, 1) := by decide +kernel
theorem dX7_told_65 : decode cX7_told 65 = .ok (.iload_n 1, 1) := by decide +kernel
theorem dX7_told_66 : decode cX7_told 66 = .ok (.iload_n 2, 1) := by decide +kernel
theorem dX7_told_67 : decode cX7_told 67 = .ok (.invokevirtual 287, 3) := by decide +kernel
theorem dX7_told_70 : decode cX7_told 70 = .ok (.istore 6, 2) := by decide +kernel
theorem dX7_told_72 : decode cX7_told 72 = .ok (.iload_n 3, 1) := by decide +kernel
theorem dX7_told_73 : decode cX7_told 73 = .ok (.ifCond .ne 13, 3) := by decide +kernel
theorem dX7_told_76 : decode cX7_told 76 = .ok (.aload_n 0, 1) := by decide +kernel
theorem dX7_told_77 : decode cX7_told 77 = .ok (.getfield 204, 3) := by decide +kernel
theorem dX7_told_80 : decode cX7_told 80 = .ok (.iload 5, 2) := by decide +kernel
theorem dX7_told_82 : decode cX7_told 82 = .ok (.isub, 1) := by decide +kernel
theorem dX7_told_83 : decode cX7_told 83 = .ok (.goto 24, 3) := by decide +kernel
theorem dX7_told_86 : decode cX7_told 86 = .ok (.iload_n 3, 1) := by decide +kernel
theorem dX7_told_87 : decode cX7_told 87 = .ok (.iconst 1, 1) := by decide +kernel
theorem dX7_told_88 : decode cX7_told 88 = .ok (.if_icmp .ne 10, 3) := by decide +kernel
theorem dX7_told_91 : decode cX7_told 91 = .ok (.aload_n 0, 1) := by decide +kernel
theorem dX7_told_92 : decode cX7_told 92 = .ok (.getfield 201, 3) := by decide +kernel
theorem dX7_told_95 : decode cX7_told 95 = .ok (.goto 12, 3) := by decide +kernel
theorem dX7_told_98 : decode cX7_told 98 = .ok (.aload_n 0, 1) := by decide +kernel
theorem dX7_told_99 : decode cX7_told 99 = .ok (.getfield 53, 3) := by decide +kernel
theorem dX7_told_102 : decode cX7_told 102 = .ok (.iload_n 3, 1) := by decide +kernel
theorem dX7_told_103 : decode cX7_told 103 = .ok (.bipush 10, 2) := by decide +kernel
theorem dX7_told_105 : decode cX7_told 105 = .ok (.isub, 1) := by decide +kernel
theorem dX7_told_106 : decode cX7_told 106 = .ok (.iaload, 1) := by decide +kernel
theorem dX7_told_107 : decode cX7_told 107 = .ok (.istore 7, 2) := by decide +kernel
theorem dX7_told_109 : decode cX7_told 109 = .ok (.aload_n 0, 1) := by decide +kernel
theorem dX7_told_110 : decode cX7_told 110 = .ok (.invokevirtual 262, 3) := by decide +kernel
theorem dX7_told_113 : decode cX7_told 113 = .ok (.iload 6, 2) := by decide +kernel
theorem dX7_told_115 : decode cX7_told 115 = .ok (.iconst (-1), 1) := by decide +kernel
theorem dX7_told_116 : decode cX7_told 116 = .ok (.if_icmp .ne 8, 3) := by decide +kernel
theorem dX7_told_119 : decode cX7_told 119 = .ok (.iload 7, 2) := by decide +kernel
theorem dX7_told_121 : decode cX7_told 121 = .ok (.goto 9, 3) := by decide +kernel
theorem dX7_told_124 : decode cX7_told 124 = .ok (.aload_n 0, 1) := by decide +kernel
theorem dX7_told_125 : decode cX7_told 125 = .ok (.bipush (-6), 2) := by decide +kernel
theorem dX7_told_127 : decode cX7_told 127 = .ok (.invokevirtual 124, 3) := by decide +kernel
theorem dX7_told_130 : decode cX7_told 130 = .ok (.ireturn, 1) := by decide +kernel
theorem dX7_done_0 : decode cX7_done 0 = .ok (.aload_n 0, 1) := by decide +kernel
theorem dX7_done_1 : decode cX7_done 1 = .ok (.iload_n 1, 1) := by decide +kernel
theorem dX7_done_2 : decode cX7_done 2 = .ok (.iload_n 2, 1) := by decide +kernel
theorem dX7_done_3 : decode cX7_done 3 = .ok (.invokevirtual 284, 3) := by decide +kernel
theorem dX7_done_6 : decode cX7_done 6 = .ok (.istore_n 3, 1) := by decide +kernel
theorem dX7_done_7 : decode cX7_done 7 = .ok (.iload_n 3, 1) := by decide +kernel
theorem dX7_done_8 : decode cX7_done 8 = .ok (.ifCond .eq 9, 3) := by decide +kernel
theorem dX7_done_11 : decode cX7_done 11 = .ok (.aload_n 0, 1) := by decide +kernel
theorem dX7_done_12 : decode cX7_done 12 = .ok (.iload_n 3, 1) := by decide +kernel
theorem dX7_done_13 : decode cX7_done 13 = .ok (.invokevirtual 124, 3) := by decide +kernel
theorem dX7_done_16 : decode cX7_done 16 = .ok (.ireturn, 1) := by decide +kernel
theorem dX7_done_17 : decode cX7_done 17 = .ok (.aload_n 0, 1) := by decide +kernel
theorem dX7_done_18 : decode cX7_done 18 = .ok (.aload_n 0, 1) := by decide +kernel
theorem dX7_done_19 : decode cX7_done 19 = .ok (.getfield 93, 3) := by decide +kernel
theorem dX7_done_22 : decode cX7_done 22 = .ok (.iconst 0, 1) := by decide +kernel
theorem dX7_done_23 : decode cX7_done 23 = .ok (.invokevirtual 210, 3) := by decide +kernel
theorem dX7_done_26 : decode cX7_done 26 = .ok (.aload_n 0, 1) := by decide +kernel
theorem dX7_done_27 : decode cX7_done 27 = .ok (.iload_n 1, 1) := by decide +kernel
theorem dX7_done_28 : decode cX7_done 28 = .ok (.iload_n 2, 1) := by decide +kernel
theorem dX7_done_29 : decode cX7_done 29 = .ok (.invokevirtual 287, 3) := by decide +kernel
theorem dX7_done_32 : decode cX7_done 32 = .ok (.iconst (-1), 1) := by decide +kernel
theorem dX7_done_33 : decode cX7_done 33 = .ok (.if_icmp .ne 8, 3) := by decide +kernel
theorem dX7_done_36 : decode cX7_done 36 = .ok (.aload_n 0, 1) := by decide +kernel
theorem dX7_done_37 : decode cX7_done 37 = .ok (.getfield 198, 3) := by decide +kernel
theorem dX7_done_40 : decode cX7_done 40 = .ok (.ireturn, 1) := by decide +kernel
theorem dX7_done_41 : decode cX7_done 41 = .ok (.aload_n 0, 1) := by decide +kernel
theorem dX7_done_42 : decode cX7_done 42 = .ok (.invokevirtual 262, 3) := by decide +kernel
theorem dX7_done_45 : decode cX7_done 45 = .ok (.aload_n 0, 1) := by decide +kernel
theorem dX7_done_46 : decode cX7_done 46 = .ok (.bipush (-6), 2) := by decide +kernel
theorem dX7_done_48 : decode cX7_done 48 = .ok (.invokevirtual 124, 3) := by decide +kernel
theorem dX7_done_51 : decode cX7_done 51 = .ok (.ireturn, 1) := by decide +kernel
theorem dX7_heap_0 : decode cX7_heap 0 = .ok (.aload_n 0, 1) := by decide +kernel
theorem dX7_heap_1 : decode cX7_heap 1 = .ok (.iload_n 1, 1) := by decide +kernel
theorem dX7_heap_2 : decode cX7_heap 2 = .ok (.invokevirtual 247, 3) := by decide +kernel
theorem dX7_heap_5 : decode cX7_heap 5 = .ok (.ifCond .eq 7, 3) := by decide +kernel
theorem dX7_heap_8 : decode cX7_heap 8 = .ok (.iload_n 2, 1) := by decide +kernel
theorem dX7_heap_9 : decode cX7_heap 9 = .ok (.ifCond .ge 10, 3) := by decide +kernel
theorem dX7_heap_12 : decode cX7_heap 12 = .ok (.aload_n 0, 1) := by decide +kernel
theorem dX7_heap_13 : decode cX7_heap 13 = .ok (.bipush (-6), 2) := by decide +kernel
theorem dX7_heap_15 : decode cX7_heap 15 = .ok (.invokevirtual 145, 3) := by decide +kernel
theorem dX7_heap_18 : decode cX7_heap 18 = .ok (.ireturn, 1) := by decide +kernel
theorem dX7_heap_19 : decode cX7_heap 19 = .ok (.aload_n 0, 1) := by decide +kernel
theorem dX7_heap_20 : decode cX7_heap 20 = .ok (.aload_n 0, 1) := by decide +kernel
theorem dX7_heap_21 : decode cX7_heap 21 = .ok (.getfield 93, 3) := by decide +kernel
theorem dX7_heap_24 : decode cX7_heap 24 = .ok (.iconst 0, 1) := by decide +kernel
theorem dX7_heap_25 : decode cX7_heap 25 = .ok (.invokevirtual 210, 3) := by decide +kernel
theorem dX7_heap_28 : decode cX7_heap 28 = .ok (.iconst (-1), 1) := by decide +kernel
theorem dX7_heap_29 : decode cX7_heap 29 = .ok (.istore_n 3, 1) := by decide +kernel
theorem dX7_heap_30 : decode cX7_heap 30 = .ok (.iconst 0, 1) := by decide +kernel
theorem dX7_heap_31 : decode cX7_heap 31 = .ok (.istore 4, 2) := by decide +kernel
theorem dX7_heap_33 : decode cX7_heap 33 = .ok (.iload 4, 2) := by decide +kernel
theorem dX7_heap_35 : decode cX7_heap 35 = .ok (.sipush 240, 3) := by decide +kernel
theorem dX7_heap_38 : decode cX7_heap 38 = .ok (.if_icmp .gt 30, 3) := by decide +kernel
theorem dX7_heap_41 : decode cX7_heap 41 = .ok (.iload_n 3, 1) := by decide +kernel
theorem dX7_heap_42 : decode cX7_heap 42 = .ok (.iconst (-1), 1) := by decide +kernel
theorem dX7_heap_43 : decode cX7_heap 43 = .ok (.if_icmp .ne 25, 3) := by decide +kernel
theorem dX7_heap_46 : decode cX7_heap 46 = .ok (.aload_n 0, 1) := by decide +kernel
theorem dX7_heap_47 : decode cX7_heap 47 = .ok (.getfield 201, 3) := by decide +kernel
theorem dX7_heap_50 : decode cX7_heap 50 = .ok (.iload_n 2, 1) := by decide +kernel
theorem dX7_heap_51 : decode cX7_heap 51 = .ok (.if_icmp .lt 6, 3) := by decide +kernel
theorem dX7_heap_54 : decode cX7_heap 54 = .ok (.iload 4, 2) := by decide +kernel
theorem dX7_heap_56 : decode cX7_heap 56 = .ok (.istore_n 3, 1) := by decide +kernel
theorem dX7_heap_57 : decode cX7_heap 57 = .ok (.aload_n 0, 1) := by decide +kernel
theorem dX7_heap_58 : decode cX7_heap 58 = .ok (.iload_n 1, 1) := by decide +kernel
theorem dX7_heap_59 : decode cX7_heap 59 = .ok (.invokevirtual 243, 3) := by decide +kernel
theorem dX7_heap_62 : decode cX7_heap 62 = .ok (.iinc 4 1, 3) := by decide +kernel
theorem dX7_heap_65 : decode cX7_heap 65 = .ok (.goto (-32), 3) := by decide +kernel
theorem dX7_heap_68 : decode cX7_heap 68 = .ok (.aload_n 0, 1) := by decide +kernel
theorem dX7_heap_69 : decode cX7_heap 69 = .ok (.invokevirtual 262, 3) := by decide +kernel
theorem dX7_heap_72 : decode cX7_heap 72 = .ok (.iload_n 3, 1) := by decide +kernel
theorem dX7_heap_73 : decode cX7_heap 73 = .ok (.ireturn, 1) := by decide +kernel
theorem dX7_does_0 : decode cX7_does 0 = .ok (.aload_n 0, 1) := by decide +kernel
theorem dX7_does_1 : decode cX7_does 1 = .ok (.iload_n 1, 1) := by decide +kernel
theorem dX7_does_2 : decode cX7_does 2 = .ok (.invokevirtual 142, 3) := by decide +kernel
theorem dX7_does_5 : decode cX7_does 5 = .ok (.ifCond .ne 9, 3) := by decide +kernel
theorem dX7_does_8 : decode cX7_does 8 = .ok (.aload_n 0, 1) := by decide +kernel
theorem dX7_does_9 : decode cX7_does 9 = .ok (.iconst (-1), 1) := by decide +kernel
theorem dX7_does_10 : decode cX7_does 10 = .ok (.invokevirtual 124, 3) := by decide +kernel
theorem dX7_does_13 : decode cX7_does 13 = .ok (.ireturn, 1) := by decide +kernel
theorem dX7_does_14 : decode cX7_does 14 = .ok (.aload_n 0, 1) := by decide +kernel
theorem dX7_does_15 : decode cX7_does 15 = .ok (.iload_n 1, 1) := by decide +kernel
theorem dX7_does_16 : decode cX7_does 16 = .ok (.iload_n 2, 1) := by decide +kernel
theorem dX7_does_17 : decode cX7_does 17 = .ok (.invokevirtual 170, 3) := by decide +kernel
theorem dX7_does_20 : decode cX7_does 20 = .ok (.ifCond .ne 10, 3) := by decide +kernel
theorem dX7_does_23 : decode cX7_does 23 = .ok (.aload_n 0, 1) := by decide +kernel
theorem dX7_does_24 : decode cX7_does 24 = .ok (.bipush (-6), 2) := by decide +kernel
theorem dX7_does_26 : decode cX7_does 26 = .ok (.invokevirtual 124, 3) := by decide +kernel
theorem dX7_does_29 : decode cX7_does 29 = .ok (.ireturn, 1) := by decide +kernel
theorem dX7_does_30 : decode cX7_does 30 = .ok (.aload_n 0, 1) := by decide +kernel
theorem dX7_does_31 : decode cX7_does 31 = .ok (.iload_n 1, 1) := by decide +kernel
theorem dX7_does_32 : decode cX7_does 32 = .ok (.iload_n 2, 1) := by decide +kernel
theorem dX7_does_33 : decode cX7_does 33 = .ok (.invokevirtual 187, 3) := by decide +kernel
theorem dX7_does_36 : decode cX7_does 36 = .ok (.iconst 1, 1) := by decide +kernel
theorem dX7_does_37 : decode cX7_does 37 = .ok (.ireturn, 1) := by decide +kernel
theorem dX7_minute_0 : decode cX7_minute 0 = .ok (.aload_n 0, 1) := by decide +kernel
theorem dX7_minute_1 : decode cX7_minute 1 = .ok (.iload_n 1, 1) := by decide +kernel
theorem dX7_minute_2 : decode cX7_minute 2 = .ok (.invokevirtual 247, 3) := by decide +kernel
theorem dX7_minute_5 : decode cX7_minute 5 = .ok (.ifCond .ne 10, 3) := by decide +kernel
theorem dX7_minute_8 : decode cX7_minute 8 = .ok (.aload_n 0, 1) := by decide +kernel
theorem dX7_minute_9 : decode cX7_minute 9 = .ok (.bipush (-6), 2) := by decide +kernel
theorem dX7_minute_11 : decode cX7_minute 11 = .ok (.invokevirtual 124, 3) := by decide +kernel
theorem dX7_minute_14 : decode cX7_minute 14 = .ok (.ireturn, 1) := by decide +kernel
theorem dX7_minute_15 : decode cX7_minute 15 = .ok (.aload_n 0, 1) := by decide +kernel
theorem dX7_minute_16 : decode cX7_minute 16 = .ok (.iload_n 1, 1) := by decide +kernel
theorem dX7_minute_17 : decode cX7_minute 17 = .ok (.invokevirtual 243, 3) := by decide +kernel
theorem dX7_minute_20 : decode cX7_minute 20 = .ok (.aload_n 0, 1) := by decide +kernel
theorem dX7_minute_21 : decode cX7_minute 21 = .ok (.getfield 198, 3) := by decide +kernel
theorem dX7_minute_24 : decode cX7_minute 24 = .ok (.ireturn, 1) := by decide +kernel
theorem dX7_night_0 : decode cX7_night 0 = .ok (.aload_n 0, 1) := by decide +kernel
theorem dX7_night_1 : decode cX7_night 1 = .ok (.invokevirtual 191, 3) := by decide +kernel
theorem dX7_night_4 : decode cX7_night 4 = .ok (.ireturn, 1) := by decide +kernel
theorem dX7_draw_0 : decode cX7_draw 0 = .ok (.aload_n 0, 1) := by decide +kernel
theorem dX7_draw_1 : decode cX7_draw 1 = .ok (.aload_n 0, 1) := by decide +kernel
theorem dX7_draw_2 : decode cX7_draw 2 = .ok (.getfield 16, 3) := by decide +kernel
theorem dX7_draw_5 : decode cX7_draw 5 = .ok (.ldc_w 290, 3) := by decide +kernel
theorem dX7_draw_8 : decode cX7_draw 8 = .ok (.imul, 1) := by decide +kernel
theorem dX7_draw_9 : decode cX7_draw 9 = .ok (.sipush 12345, 3) := by decide +kernel
theorem dX7_draw_12 : decode cX7_draw 12 = .ok (.iadd, 1) := by decide +kernel
theorem dX7_draw_13 : decode cX7_draw 13 = .ok (.putfield 16, 3) := by decide +kernel
theorem dX7_draw_16 : decode cX7_draw 16 = .ok (.aload_n 0, 1) := by decide +kernel
theorem dX7_draw_17 : decode cX7_draw 17 = .ok (.getfield 16, 3) := by decide +kernel
theorem dX7_draw_20 : decode cX7_draw 20 = .ok (.bipush 16, 2) := by decide +kernel
theorem dX7_draw_22 : decode cX7_draw 22 = .ok (.iushr, 1) := by decide +kernel
theorem dX7_draw_23 : decode cX7_draw 23 = .ok (.iload_n 1, 1) := by decide +kernel
theorem dX7_draw_24 : decode cX7_draw 24 = .ok (.irem, 1) := by decide +kernel
theorem dX7_draw_25 : decode cX7_draw 25 = .ok (.ireturn, 1) := by decide +kernel
theorem dX7_afternoon_0 : decode cX7_afternoon 0 = .ok (.iload_n 1, 1) := by decide +kernel
theorem dX7_afternoon_1 : decode cX7_afternoon 1 = .ok (.iconst 1, 1) := by decide +kernel
theorem dX7_afternoon_2 : decode cX7_afternoon 2 = .ok (.if_icmp .lt 10, 3) := by decide +kernel
theorem dX7_afternoon_5 : decode cX7_afternoon 5 = .ok (.iload_n 1, 1) := by decide +kernel
theorem dX7_afternoon_6 : decode cX7_afternoon 6 = .ok (.sipush 240, 3) := by decide +kernel
theorem dX7_afternoon_9 : decode cX7_afternoon 9 = .ok (.if_icmp .le 10, 3) := by decide +kernel
theorem dX7_afternoon_12 : decode cX7_afternoon 12 = .ok (.aload_n 0, 1) := by decide +kernel
theorem dX7_afternoon_13 : decode cX7_afternoon 13 = .ok (.bipush (-6), 2) := by decide +kernel
theorem dX7_afternoon_15 : decode cX7_afternoon 15 = .ok (.invokevirtual 124, 3) := by decide +kernel
theorem dX7_afternoon_18 : decode cX7_afternoon 18 = .ok (.ireturn, 1) := by decide +kernel
theorem dX7_afternoon_19 : decode cX7_afternoon 19 = .ok (.aload_n 0, 1) := by decide +kernel
theorem dX7_afternoon_20 : decode cX7_afternoon 20 = .ok (.getfield 204, 3) := by decide +kernel
theorem dX7_afternoon_23 : decode cX7_afternoon 23 = .ok (.istore_n 2, 1) := by decide +kernel
theorem dX7_afternoon_24 : decode cX7_afternoon 24 = .ok (.iconst 0, 1) := by decide +kernel
theorem dX7_afternoon_25 : decode cX7_afternoon 25 = .ok (.istore_n 3, 1) := by decide +kernel
theorem dX7_afternoon_26 : decode cX7_afternoon 26 = .ok (.iload_n 3, 1) := by decide +kernel
theorem dX7_afternoon_27 : decode cX7_afternoon 27 = .ok (.iload_n 1, 1) := by decide +kernel
theorem dX7_afternoon_28 : decode cX7_afternoon 28 = .ok (.if_icmp .ge 95, 3) := by decide +kernel
theorem dX7_afternoon_31 : decode cX7_afternoon 31 = .ok (.aload_n 0, 1) := by decide +kernel
theorem dX7_afternoon_32 : decode cX7_afternoon 32 = .ok (.invokevirtual 234, 3) := by decide +kernel
theorem dX7_afternoon_35 : decode cX7_afternoon 35 = .ok (.iconst 0, 1) := by decide +kernel
theorem dX7_afternoon_36 : decode cX7_afternoon 36 = .ok (.istore 4, 2) := by decide +kernel
theorem dX7_afternoon_38 : decode cX7_afternoon 38 = .ok (.iload 4, 2) := by decide +kernel
theorem dX7_afternoon_40 : decode cX7_afternoon 40 = .ok (.aload_n 0, 1) := by decide +kernel
theorem dX7_afternoon_41 : decode cX7_afternoon 41 = .ok (.getfield 117, 3) := by decide +kernel
theorem dX7_afternoon_44 : decode cX7_afternoon 44 = .ok (.if_icmp .ge 69, 3) := by decide +kernel
theorem dX7_afternoon_47 : decode cX7_afternoon 47 = .ok (.aload_n 0, 1) := by decide +kernel
theorem dX7_afternoon_48 : decode cX7_afternoon 48 = .ok (.iconst 4, 1) := by decide +kernel
theorem dX7_afternoon_49 : decode cX7_afternoon 49 = .ok (.invokevirtual 291, 3) := by decide +kernel
theorem dX7_afternoon_52 : decode cX7_afternoon 52 = .ok (.istore 5, 2) := by decide +kernel
theorem dX7_afternoon_54 : decode cX7_afternoon 54 = .ok (.iload 5, 2) := by decide +kernel
theorem dX7_afternoon_56 : decode cX7_afternoon 56 = .ok (.iconst 1, 1) := by decide +kernel
theorem dX7_afternoon_57 : decode cX7_afternoon 57 = .ok (.if_icmp .ne 7, 3) := by decide +kernel
theorem dX7_afternoon_60 : decode cX7_afternoon 60 = .ok (.iconst 1, 1) := by decide +kernel
theorem dX7_afternoon_61 : decode cX7_afternoon 61 = .ok (.goto 21, 3) := by decide +kernel
theorem dX7_afternoon_64 : decode cX7_afternoon 64 = .ok (.iload 5, 2) := by decide +kernel
theorem dX7_afternoon_66 : decode cX7_afternoon 66 = .ok (.iconst 2, 1) := by decide +kernel
theorem dX7_afternoon_67 : decode cX7_afternoon 67 = .ok (.if_icmp .ne 7, 3) := by decide +kernel
theorem dX7_afternoon_70 : decode cX7_afternoon 70 = .ok (.iconst 2, 1) := by decide +kernel
theorem dX7_afternoon_71 : decode cX7_afternoon 71 = .ok (.goto 11, 3) := by decide +kernel
theorem dX7_afternoon_74 : decode cX7_afternoon 74 = .ok (.aload_n 0, 1) := by decide +kernel
theorem dX7_afternoon_75 : decode cX7_afternoon 75 = .ok (.iload 5, 2) := by decide +kernel
theorem dX7_afternoon_77 : decode cX7_afternoon 77 = .ok (.iload 4, 2) := by decide +kernel
theorem dX7_afternoon_79 : decode cX7_afternoon 79 = .ok (.invokevirtual 237, 3) := by decide +kernel
theorem dX7_afternoon_82 : decode cX7_afternoon 82 = .ok (.istore 6, 2) := by decide +kernel
theorem dX7_afternoon_84 : decode cX7_afternoon 84 = .ok (.aload_n 0, 1) := by decide +kernel
theorem dX7_afternoon_85 : decode cX7_afternoon 85 = .ok (.iload 4, 2) := by decide +kernel
theorem dX7_afternoon_87 : decode cX7_afternoon 87 = .ok (.aload_n 0, 1) := by decide +kernel
theorem dX7_afternoon_88 : decode cX7_afternoon 88 = .ok (.iload 4, 2) := by decide +kernel
theorem dX7_afternoon_90 : decode cX7_afternoon 90 = .ok (.iload 6, 2) := by decide +kernel
theorem dX7_afternoon_92 : decode cX7_afternoon 92 = .ok (.invokevirtual 170, 3) := by decide +kernel
theorem dX7_afternoon_95 : decode cX7_afternoon 95 = .ok (.ifCond .eq 8, 3) := by decide +kernel
theorem dX7_afternoon_98 : decode cX7_afternoon 98 = .ok (.iload 6, 2) := by decide +kernel
theorem dX7_afternoon_100 : decode cX7_afternoon 100 = .ok (.goto 4, 3) := by decide +kernel
theorem dX7_afternoon_103 : decode cX7_afternoon 103 = .ok (.iconst 0, 1) := by decide +kernel
theorem dX7_afternoon_104 : decode cX7_afternoon 104 = .ok (.invokevirtual 187, 3) := by decide +kernel
theorem dX7_afternoon_107 : decode cX7_afternoon 107 = .ok (.iinc 4 1, 3) := by decide +kernel
theorem dX7_afternoon_110 : decode cX7_afternoon 110 = .ok (.goto (-72), 3) := by decide +kernel
theorem dX7_afternoon_113 : decode cX7_afternoon 113 = .ok (.aload_n 0, 1) := by decide +kernel
theorem dX7_afternoon_114 : decode cX7_afternoon 114 = .ok (.invokevirtual 240, 3) := by decide +kernel
theorem dX7_afternoon_117 : decode cX7_afternoon 117 = .ok (.iinc 3 1, 3) := by decide +kernel
theorem dX7_afternoon_120 : decode cX7_afternoon 120 = .ok (.goto (-94), 3) := by decide +kernel
theorem dX7_afternoon_123 : decode cX7_afternoon 123 = .ok (.aload_n 0, 1) := by decide +kernel
theorem dX7_afternoon_124 : decode cX7_afternoon 124 = .ok (.getfield 204, 3) := by decide +kernel
theorem dX7_afternoon_127 : decode cX7_afternoon 127 = .ok (.iload_n 2, 1) := by decide +kernel
theorem dX7_afternoon_128 : decode cX7_afternoon 128 = .ok (.isub, 1) := by decide +kernel
theorem dX7_afternoon_129 : decode cX7_afternoon 129 = .ok (.ireturn, 1) := by decide +kernel
theorem dX7_seed_0 : decode cX7_seed 0 = .ok (.aload_n 0, 1) := by decide +kernel
theorem dX7_seed_1 : decode cX7_seed 1 = .ok (.getfield 16, 3) := by decide +kernel
theorem dX7_seed_4 : decode cX7_seed 4 = .ok (.istore_n 2, 1) := by decide +kernel
theorem dX7_seed_5 : decode cX7_seed 5 = .ok (.aload_n 0, 1) := by decide +kernel
theorem dX7_seed_6 : decode cX7_seed 6 = .ok (.iload_n 1, 1) := by decide +kernel
theorem dX7_seed_7 : decode cX7_seed 7 = .ok (.putfield 16, 3) := by decide +kernel
theorem dX7_seed_10 : decode cX7_seed 10 = .ok (.iload_n 2, 1) := by decide +kernel
theorem dX7_seed_11 : decode cX7_seed 11 = .ok (.ireturn, 1) := by decide +kernel
theorem dX7_body_0 : decode cX7_body 0 = .ok (.aload_n 0, 1) := by decide +kernel
theorem dX7_body_1 : decode cX7_body 1 = .ok (.getfield 294, 3) := by decide +kernel
theorem dX7_body_4 : decode cX7_body 4 = .ok (.bipush 20, 2) := by decide +kernel
theorem dX7_body_6 : decode cX7_body 6 = .ok (.if_icmp .ge 13, 3) := by decide +kernel
theorem dX7_body_9 : decode cX7_body 9 = .ok (.aload_n 0, 1) := by decide +kernel
theorem dX7_body_10 : decode cX7_body 10 = .ok (.getfield 111, 3) := by decide +kernel
theorem dX7_body_13 : decode cX7_body 13 = .ok (.aload_n 0, 1) := by decide +kernel
theorem dX7_body_14 : decode cX7_body 14 = .ok (.getfield 294, 3) := by decide +kernel
theorem dX7_body_17 : decode cX7_body 17 = .ok (.iload_n 1, 1) := by decide +kernel
theorem dX7_body_18 : decode cX7_body 18 = .ok (.iastore, 1) := by decide +kernel
theorem dX7_body_19 : decode cX7_body 19 = .ok (.aload_n 0, 1) := by decide +kernel
theorem dX7_body_20 : decode cX7_body 20 = .ok (.dup, 1) := by decide +kernel
theorem dX7_body_21 : decode cX7_body 21 = .ok (.getfield 294, 3) := by decide +kernel
theorem dX7_body_24 : decode cX7_body 24 = .ok (.iconst 1, 1) := by decide +kernel
theorem dX7_body_25 : decode cX7_body 25 = .ok (.iadd, 1) := by decide +kernel
theorem dX7_body_26 : decode cX7_body 26 = .ok (.putfield 294, 3) := by decide +kernel
theorem dX7_body_29 : decode cX7_body 29 = .ok (.return_, 1) := by decide +kernel
theorem dX7_asking_0 : decode cX7_asking 0 = .ok (.aload_n 0, 1) := by decide +kernel
theorem dX7_asking_1 : decode cX7_asking 1 = .ok (.getfield 26, 3) := by decide +kernel
theorem dX7_asking_4 : decode cX7_asking 4 = .ok (.iload_n 1, 1) := by decide +kernel
theorem dX7_asking_5 : decode cX7_asking 5 = .ok (.iaload, 1) := by decide +kernel
theorem dX7_asking_6 : decode cX7_asking 6 = .ok (.istore_n 3, 1) := by decide +kernel
theorem dX7_asking_7 : decode cX7_asking 7 = .ok (.iload_n 3, 1) := by decide +kernel
theorem dX7_asking_8 : decode cX7_asking 8 = .ok (.bipush 6, 2) := by decide +kernel
theorem dX7_asking_10 : decode cX7_asking 10 = .ok (.if_icmp .ne 9, 3) := by decide +kernel
theorem dX7_asking_13 : decode cX7_asking 13 = .ok (.aload_n 0, 1) := by decide +kernel
theorem dX7_asking_14 : decode cX7_asking 14 = .ok (.bipush 70, 2) := by decide +kernel
theorem dX7_asking_16 : decode cX7_asking 16 = .ok (.invokevirtual 297, 3) := by decide +kernel
theorem dX7_asking_19 : decode cX7_asking 19 = .ok (.iload_n 3, 1) := by decide +kernel
theorem dX7_asking_20 : decode cX7_asking 20 = .ok (.iconst 4, 1) := by decide +kernel
theorem dX7_asking_21 : decode cX7_asking 21 = .ok (.if_icmp .eq 9, 3) := by decide +kernel
theorem dX7_asking_24 : decode cX7_asking 24 = .ok (.iload_n 3, 1) := by decide +kernel
theorem dX7_asking_25 : decode cX7_asking 25 = .ok (.bipush 6, 2) := by decide +kernel
theorem dX7_asking_27 : decode cX7_asking 27 = .ok (.if_icmp .ne 9, 3) := by decide +kernel
theorem dX7_asking_30 : decode cX7_asking 30 = .ok (.aload_n 0, 1) := by decide +kernel
theorem dX7_asking_31 : decode cX7_asking 31 = .ok (.bipush 51, 2) := by decide +kernel
theorem dX7_asking_33 : decode cX7_asking 33 = .ok (.invokevirtual 297, 3) := by decide +kernel
theorem dX7_asking_36 : decode cX7_asking 36 = .ok (.iload_n 3, 1) := by decide +kernel
theorem dX7_asking_37 : decode cX7_asking 37 = .ok (.iconst 1, 1) := by decide +kernel
theorem dX7_asking_38 : decode cX7_asking 38 = .ok (.if_icmp .eq 8, 3) := by decide +kernel
theorem dX7_asking_41 : decode cX7_asking 41 = .ok (.iload_n 3, 1) := by decide +kernel
theorem dX7_asking_42 : decode cX7_asking 42 = .ok (.iconst 3, 1) := by decide +kernel
theorem dX7_asking_43 : decode cX7_asking 43 = .ok (.if_icmp .ne 9, 3) := by decide +kernel
theorem dX7_asking_46 : decode cX7_asking 46 = .ok (.aload_n 0, 1) := by decide +kernel
theorem dX7_asking_47 : decode cX7_asking 47 = .ok (.bipush 20, 2) := by decide +kernel
theorem dX7_asking_49 : decode cX7_asking 49 = .ok (.invokevirtual 297, 3) := by decide +kernel
theorem dX7_asking_52 : decode cX7_asking 52 = .ok (.aload_n 0, 1) := by decide +kernel
theorem dX7_asking_53 : decode cX7_asking 53 = .ok (.bipush 10, 2) := by decide +kernel
theorem dX7_asking_55 : decode cX7_asking 55 = .ok (.invokevirtual 297, 3) := by decide +kernel
theorem dX7_asking_58 : decode cX7_asking 58 = .ok (.iload_n 2, 1) := by decide +kernel
theorem dX7_asking_59 : decode cX7_asking 59 = .ok (.iload_n 1, 1) := by decide +kernel
theorem dX7_asking_60 : decode cX7_asking 60 = .ok (.iadd, 1) := by decide +kernel
theorem dX7_asking_61 : decode cX7_asking 61 = .ok (.istore 4, 2) := by decide +kernel
theorem dX7_asking_63 : decode cX7_asking 63 = .ok (.iload_n 3, 1) := by decide +kernel
theorem dX7_asking_64 : decode cX7_asking 64 = .ok (.iconst 1, 1) := by decide +kernel
theorem dX7_asking_65 : decode cX7_asking 65 = .ok (.if_icmp .eq 8, 3) := by decide +kernel
theorem dX7_asking_68 : decode cX7_asking 68 = .ok (.iload_n 3, 1) := by decide +kernel
theorem dX7_asking_69 : decode cX7_asking 69 = .ok (.iconst 3, 1) := by decide +kernel
theorem dX7_asking_70 : decode cX7_asking 70 = .ok (.if_icmp .ne 14, 3) := by decide +kernel
theorem dX7_asking_73 : decode cX7_asking 73 = .ok (.iload 4, 2) := by decide +kernel
theorem dX7_asking_75 : decode cX7_asking 75 = .ok (.aload_n 0, 1) := by decide +kernel
theorem dX7_asking_76 : decode cX7_asking 76 = .ok (.getfield 29, 3) := by decide +kernel
theorem dX7_asking_79 : decode cX7_asking 79 = .ok (.iload_n 1, 1) := by decide +kernel
theorem dX7_asking_80 : decode cX7_asking 80 = .ok (.iaload, 1) := by decide +kernel
theorem dX7_asking_81 : decode cX7_asking 81 = .ok (.iadd, 1) := by decide +kernel
theorem dX7_asking_82 : decode cX7_asking 82 = .ok (.istore 4, 2) := by decide +kernel
theorem dX7_asking_84 : decode cX7_asking 84 = .ok (.iload_n 3, 1) := by decide +kernel
theorem dX7_asking_85 : decode cX7_asking 85 = .ok (.iconst 4, 1) := by decide +kernel
theorem dX7_asking_86 : decode cX7_asking 86 = .ok (.if_icmp .eq 9, 3) := by decide +kernel
theorem dX7_asking_89 : decode cX7_asking 89 = .ok (.iload_n 3, 1) := by decide +kernel
theorem dX7_asking_90 : decode cX7_asking 90 = .ok (.bipush 6, 2) := by decide +kernel
theorem dX7_asking_92 : decode cX7_asking 92 = .ok (.if_icmp .ne 9, 3) := by decide +kernel
theorem dX7_asking_95 : decode cX7_asking 95 = .ok (.iload 4, 2) := by decide +kernel
theorem dX7_asking_97 : decode cX7_asking 97 = .ok (.iload_n 1, 1) := by decide +kernel
theorem dX7_asking_98 : decode cX7_asking 98 = .ok (.isub, 1) := by decide +kernel
theorem dX7_asking_99 : decode cX7_asking 99 = .ok (.istore 4, 2) := by decide +kernel
theorem dX7_asking_101 : decode cX7_asking 101 = .ok (.iload_n 3, 1) := by decide +kernel
theorem dX7_asking_102 : decode cX7_asking 102 = .ok (.bipush 6, 2) := by decide +kernel
theorem dX7_asking_104 : decode cX7_asking 104 = .ok (.if_icmp .ne 10, 3) := by decide +kernel
theorem dX7_asking_107 : decode cX7_asking 107 = .ok (.iload 4, 2) := by decide +kernel
theorem dX7_asking_109 : decode cX7_asking 109 = .ok (.iconst 2, 1) := by decide +kernel
theorem dX7_asking_110 : decode cX7_asking 110 = .ok (.imul, 1) := by decide +kernel
theorem dX7_asking_111 : decode cX7_asking 111 = .ok (.goto 5, 3) := by decide +kernel
theorem dX7_asking_114 : decode cX7_asking 114 = .ok (.iload 4, 2) := by decide +kernel
theorem dX7_asking_116 : decode cX7_asking 116 = .ok (.ireturn, 1) := by decide +kernel
theorem dX7_selling_0 : decode cX7_selling 0 = .ok (.aload_n 0, 1) := by decide +kernel
theorem dX7_selling_1 : decode cX7_selling 1 = .ok (.getfield 26, 3) := by decide +kernel
theorem dX7_selling_4 : decode cX7_selling 4 = .ok (.iload_n 1, 1) := by decide +kernel
theorem dX7_selling_5 : decode cX7_selling 5 = .ok (.iaload, 1) := by decide +kernel
theorem dX7_selling_6 : decode cX7_selling 6 = .ok (.istore_n 3, 1) := by decide +kernel
theorem dX7_selling_7 : decode cX7_selling 7 = .ok (.iload_n 2, 1) := by decide +kernel
theorem dX7_selling_8 : decode cX7_selling 8 = .ok (.istore 4, 2) := by decide +kernel
theorem dX7_selling_10 : decode cX7_selling 10 = .ok (.iload_n 3, 1) := by decide +kernel
theorem dX7_selling_11 : decode cX7_selling 11 = .ok (.bipush 6, 2) := by decide +kernel
theorem dX7_selling_13 : decode cX7_selling 13 = .ok (.if_icmp .ne 19, 3) := by decide +kernel
theorem dX7_selling_16 : decode cX7_selling 16 = .ok (.aload_n 0, 1) := by decide +kernel
theorem dX7_selling_17 : decode cX7_selling 17 = .ok (.bipush 71, 2) := by decide +kernel
theorem dX7_selling_19 : decode cX7_selling 19 = .ok (.invokevirtual 297, 3) := by decide +kernel
theorem dX7_selling_22 : decode cX7_selling 22 = .ok (.iload_n 2, 1) := by decide +kernel
theorem dX7_selling_23 : decode cX7_selling 23 = .ok (.aload_n 0, 1) := by decide +kernel
theorem dX7_selling_24 : decode cX7_selling 24 = .ok (.getfield 29, 3) := by decide +kernel
theorem dX7_selling_27 : decode cX7_selling 27 = .ok (.iload_n 1, 1) := by decide +kernel
theorem dX7_selling_28 : decode cX7_selling 28 = .ok (.iaload, 1) := by decide +kernel
theorem dX7_selling_29 : decode cX7_selling 29 = .ok (.isub, 1) := by decide +kernel
theorem dX7_selling_30 : decode cX7_selling 30 = .ok (.istore 4, 2) := by decide +kernel
theorem dX7_selling_32 : decode cX7_selling 32 = .ok (.iload_n 3, 1) := by decide +kernel
theorem dX7_selling_33 : decode cX7_selling 33 = .ok (.iconst 3, 1) := by decide +kernel
theorem dX7_selling_34 : decode cX7_selling 34 = .ok (.if_icmp .ne 14, 3) := by decide +kernel
theorem dX7_selling_37 : decode cX7_selling 37 = .ok (.aload_n 0, 1) := by decide +kernel
theorem dX7_selling_38 : decode cX7_selling 38 = .ok (.bipush 40, 2) := by decide +kernel
theorem dX7_selling_40 : decode cX7_selling 40 = .ok (.invokevirtual 297, 3) := by decide +kernel
theorem dX7_selling_43 : decode cX7_selling 43 = .ok (.iload_n 2, 1) := by decide +kernel
theorem dX7_selling_44 : decode cX7_selling 44 = .ok (.iconst 1, 1) := by decide +kernel
theorem dX7_selling_45 : decode cX7_selling 45 = .ok (.iadd, 1) := by decide +kernel
theorem dX7_selling_46 : decode cX7_selling 46 = .ok (.istore 4, 2) := by decide +kernel
theorem dX7_selling_48 : decode cX7_selling 48 = .ok (.iload_n 3, 1) := by decide +kernel
theorem dX7_selling_49 : decode cX7_selling 49 = .ok (.iconst 2, 1) := by decide +kernel
theorem dX7_selling_50 : decode cX7_selling 50 = .ok (.if_icmp .eq 8, 3) := by decide +kernel
theorem dX7_selling_53 : decode cX7_selling 53 = .ok (.iload_n 3, 1) := by decide +kernel
theorem dX7_selling_54 : decode cX7_selling 54 = .ok (.iconst 5, 1) := by decide +kernel
theorem dX7_selling_55 : decode cX7_selling 55 = .ok (.if_icmp .ne 7, 3) := by decide +kernel
theorem dX7_selling_58 : decode cX7_selling 58 = .ok (.iconst 1, 1) := by decide +kernel
theorem dX7_selling_59 : decode cX7_selling 59 = .ok (.goto 4, 3) := by decide +kernel
theorem dX7_selling_62 : decode cX7_selling 62 = .ok (.iconst 0, 1) := by decide +kernel
theorem dX7_selling_63 : decode cX7_selling 63 = .ok (.istore 5, 2) := by decide +kernel
theorem dX7_selling_65 : decode cX7_selling 65 = .ok (.iload 5, 2) := by decide +kernel
theorem dX7_selling_67 : decode cX7_selling 67 = .ok (.ifCond .eq 9, 3) := by decide +kernel
theorem dX7_selling_70 : decode cX7_selling 70 = .ok (.aload_n 0, 1) := by decide +kernel
theorem dX7_selling_71 : decode cX7_selling 71 = .ok (.bipush 30, 2) := by decide +kernel
theorem dX7_selling_73 : decode cX7_selling 73 = .ok (.invokevirtual 297, 3) := by decide +kernel
theorem dX7_selling_76 : decode cX7_selling 76 = .ok (.aload_n 0, 1) := by decide +kernel
theorem dX7_selling_77 : decode cX7_selling 77 = .ok (.bipush 11, 2) := by decide +kernel
theorem dX7_selling_79 : decode cX7_selling 79 = .ok (.invokevirtual 297, 3) := by decide +kernel
theorem dX7_selling_82 : decode cX7_selling 82 = .ok (.aload_n 0, 1) := by decide +kernel
theorem dX7_selling_83 : decode cX7_selling 83 = .ok (.iload_n 1, 1) := by decide +kernel
theorem dX7_selling_84 : decode cX7_selling 84 = .ok (.iload 4, 2) := by decide +kernel
theorem dX7_selling_86 : decode cX7_selling 86 = .ok (.invokevirtual 300, 3) := by decide +kernel
theorem dX7_selling_89 : decode cX7_selling 89 = .ok (.iconst 2, 1) := by decide +kernel
theorem dX7_selling_90 : decode cX7_selling 90 = .ok (.imul, 1) := by decide +kernel
theorem dX7_selling_91 : decode cX7_selling 91 = .ok (.istore 6, 2) := by decide +kernel
theorem dX7_selling_93 : decode cX7_selling 93 = .ok (.iload 5, 2) := by decide +kernel
theorem dX7_selling_95 : decode cX7_selling 95 = .ok (.ifCond .eq 10, 3) := by decide +kernel
theorem dX7_selling_98 : decode cX7_selling 98 = .ok (.iload 6, 2) := by decide +kernel
theorem dX7_selling_100 : decode cX7_selling 100 = .ok (.iconst 3, 1) := by decide +kernel
theorem dX7_selling_101 : decode cX7_selling 101 = .ok (.imul, 1) := by decide +kernel
theorem dX7_selling_102 : decode cX7_selling 102 = .ok (.goto 5, 3) := by decide +kernel
theorem dX7_selling_105 : decode cX7_selling 105 = .ok (.iload 6, 2) := by decide +kernel
theorem dX7_selling_107 : decode cX7_selling 107 = .ok (.ireturn, 1) := by decide +kernel
theorem dX7_shutting_0 : decode cX7_shutting 0 = .ok (.aload_n 0, 1) := by decide +kernel
theorem dX7_shutting_1 : decode cX7_shutting 1 = .ok (.getfield 26, 3) := by decide +kernel
theorem dX7_shutting_4 : decode cX7_shutting 4 = .ok (.iload_n 1, 1) := by decide +kernel
theorem dX7_shutting_5 : decode cX7_shutting 5 = .ok (.iaload, 1) := by decide +kernel
theorem dX7_shutting_6 : decode cX7_shutting 6 = .ok (.istore_n 3, 1) := by decide +kernel
theorem dX7_shutting_7 : decode cX7_shutting 7 = .ok (.iload_n 3, 1) := by decide +kernel
theorem dX7_shutting_8 : decode cX7_shutting 8 = .ok (.iconst 4, 1) := by decide +kernel
theorem dX7_shutting_9 : decode cX7_shutting 9 = .ok (.if_icmp .eq 9, 3) := by decide +kernel
theorem dX7_shutting_12 : decode cX7_shutting 12 = .ok (.iload_n 3, 1) := by decide +kernel
theorem dX7_shutting_13 : decode cX7_shutting 13 = .ok (.bipush 6, 2) := by decide +kernel
theorem dX7_shutting_15 : decode cX7_shutting 15 = .ok (.if_icmp .ne 9, 3) := by decide +kernel
theorem dX7_shutting_18 : decode cX7_shutting 18 = .ok (.aload_n 0, 1) := by decide +kernel
theorem dX7_shutting_19 : decode cX7_shutting 19 = .ok (.bipush 50, 2) := by decide +kernel
theorem dX7_shutting_21 : decode cX7_shutting 21 = .ok (.invokevirtual 297, 3) := by decide +kernel
theorem dX7_shutting_24 : decode cX7_shutting 24 = .ok (.iload_n 3, 1) := by decide +kernel
theorem dX7_shutting_25 : decode cX7_shutting 25 = .ok (.iconst 5, 1) := by decide +kernel
theorem dX7_shutting_26 : decode cX7_shutting 26 = .ok (.if_icmp .ne 9, 3) := by decide +kernel
theorem dX7_shutting_29 : decode cX7_shutting 29 = .ok (.aload_n 0, 1) := by decide +kernel
theorem dX7_shutting_30 : decode cX7_shutting 30 = .ok (.bipush 60, 2) := by decide +kernel
theorem dX7_shutting_32 : decode cX7_shutting 32 = .ok (.invokevirtual 297, 3) := by decide +kernel
theorem dX7_shutting_35 : decode cX7_shutting 35 = .ok (.aload_n 0, 1) := by decide +kernel
theorem dX7_shutting_36 : decode cX7_shutting 36 = .ok (.bipush 12, 2) := by decide +kernel
theorem dX7_shutting_38 : decode cX7_shutting 38 = .ok (.invokevirtual 297, 3) := by decide +kernel
theorem dX7_shutting_41 : decode cX7_shutting 41 = .ok (.aload_n 0, 1) := by decide +kernel
theorem dX7_shutting_42 : decode cX7_shutting 42 = .ok (.iload_n 1, 1) := by decide +kernel
theorem dX7_shutting_43 : decode cX7_shutting 43 = .ok (.iload_n 2, 1) := by decide +kernel
theorem dX7_shutting_44 : decode cX7_shutting 44 = .ok (.invokevirtual 303, 3) := by decide +kernel
theorem dX7_shutting_47 : decode cX7_shutting 47 = .ok (.istore 4, 2) := by decide +kernel
theorem dX7_shutting_49 : decode cX7_shutting 49 = .ok (.iload 4, 2) := by decide +kernel
theorem dX7_shutting_51 : decode cX7_shutting 51 = .ok (.aload_n 0, 1) := by decide +kernel
theorem dX7_shutting_52 : decode cX7_shutting 52 = .ok (.iload_n 1, 1) := by decide +kernel
theorem dX7_shutting_53 : decode cX7_shutting 53 = .ok (.iload_n 2, 1) := by decide +kernel
theorem dX7_shutting_54 : decode cX7_shutting 54 = .ok (.aload_n 0, 1) := by decide +kernel
theorem dX7_shutting_55 : decode cX7_shutting 55 = .ok (.getfield 29, 3) := by decide +kernel
theorem dX7_shutting_58 : decode cX7_shutting 58 = .ok (.iload_n 1, 1) := by decide +kernel
theorem dX7_shutting_59 : decode cX7_shutting 59 = .ok (.iaload, 1) := by decide +kernel
theorem dX7_shutting_60 : decode cX7_shutting 60 = .ok (.isub, 1) := by decide +kernel
theorem dX7_shutting_61 : decode cX7_shutting 61 = .ok (.invokevirtual 300, 3) := by decide +kernel
theorem dX7_shutting_64 : decode cX7_shutting 64 = .ok (.ixor, 1) := by decide +kernel
theorem dX7_shutting_65 : decode cX7_shutting 65 = .ok (.istore 4, 2) := by decide +kernel
theorem dX7_shutting_67 : decode cX7_shutting 67 = .ok (.iload_n 3, 1) := by decide +kernel
theorem dX7_shutting_68 : decode cX7_shutting 68 = .ok (.iconst 4, 1) := by decide +kernel
theorem dX7_shutting_69 : decode cX7_shutting 69 = .ok (.if_icmp .eq 9, 3) := by decide +kernel
theorem dX7_shutting_72 : decode cX7_shutting 72 = .ok (.iload_n 3, 1) := by decide +kernel
theorem dX7_shutting_73 : decode cX7_shutting 73 = .ok (.bipush 6, 2) := by decide +kernel
theorem dX7_shutting_75 : decode cX7_shutting 75 = .ok (.if_icmp .ne 9, 3) := by decide +kernel
theorem dX7_shutting_78 : decode cX7_shutting 78 = .ok (.iload 4, 2) := by decide +kernel
theorem dX7_shutting_80 : decode cX7_shutting 80 = .ok (.ineg, 1) := by decide +kernel
theorem dX7_shutting_81 : decode cX7_shutting 81 = .ok (.goto 17, 3) := by decide +kernel
theorem dX7_shutting_84 : decode cX7_shutting 84 = .ok (.iload_n 3, 1) := by decide +kernel
theorem dX7_shutting_85 : decode cX7_shutting 85 = .ok (.iconst 5, 1) := by decide +kernel
theorem dX7_shutting_86 : decode cX7_shutting 86 = .ok (.if_icmp .ne 10, 3) := by decide +kernel
theorem dX7_shutting_89 : decode cX7_shutting 89 = .ok (.iload 4, 2) := by decide +kernel
theorem dX7_shutting_91 : decode cX7_shutting 91 = .ok (.iconst 5, 1) := by decide +kernel
theorem dX7_shutting_92 : decode cX7_shutting 92 = .ok (.ixor, 1) := by decide +kernel
theorem dX7_shutting_93 : decode cX7_shutting 93 = .ok (.goto 5, 3) := by decide +kernel
theorem dX7_shutting_96 : decode cX7_shutting 96 = .ok (.iload 4, 2) := by decide +kernel
theorem dX7_shutting_98 : decode cX7_shutting 98 = .ok (.ireturn, 1) := by decide +kernel
theorem dX7_act_0 : decode cX7_act 0 = .ok (.aload_n 0, 1) := by decide +kernel
theorem dX7_act_1 : decode cX7_act 1 = .ok (.iconst 0, 1) := by decide +kernel
theorem dX7_act_2 : decode cX7_act 2 = .ok (.putfield 294, 3) := by decide +kernel
theorem dX7_act_5 : decode cX7_act 5 = .ok (.aload_n 0, 1) := by decide +kernel
theorem dX7_act_6 : decode cX7_act 6 = .ok (.iload_n 1, 1) := by decide +kernel
theorem dX7_act_7 : decode cX7_act 7 = .ok (.invokevirtual 128, 3) := by decide +kernel
theorem dX7_act_10 : decode cX7_act 10 = .ok (.ifCond .eq 12, 3) := by decide +kernel
theorem dX7_act_13 : decode cX7_act 13 = .ok (.iload_n 2, 1) := by decide +kernel
theorem dX7_act_14 : decode cX7_act 14 = .ok (.ifCond .lt 8, 3) := by decide +kernel
theorem dX7_act_17 : decode cX7_act 17 = .ok (.iload_n 2, 1) := by decide +kernel
theorem dX7_act_18 : decode cX7_act 18 = .ok (.iconst 2, 1) := by decide +kernel
theorem dX7_act_19 : decode cX7_act 19 = .ok (.if_icmp .le 5, 3) := by decide +kernel
theorem dX7_act_22 : decode cX7_act 22 = .ok (.iconst 0, 1) := by decide +kernel
theorem dX7_act_23 : decode cX7_act 23 = .ok (.ireturn, 1) := by decide +kernel
theorem dX7_act_24 : decode cX7_act 24 = .ok (.iload_n 2, 1) := by decide +kernel
theorem dX7_act_25 : decode cX7_act 25 = .ok (.ifCond .ne 12, 3) := by decide +kernel
theorem dX7_act_28 : decode cX7_act 28 = .ok (.aload_n 0, 1) := by decide +kernel
theorem dX7_act_29 : decode cX7_act 29 = .ok (.iload_n 1, 1) := by decide +kernel
theorem dX7_act_30 : decode cX7_act 30 = .ok (.iload_n 3, 1) := by decide +kernel
theorem dX7_act_31 : decode cX7_act 31 = .ok (.invokevirtual 300, 3) := by decide +kernel
theorem dX7_act_34 : decode cX7_act 34 = .ok (.goto 23, 3) := by decide +kernel
theorem dX7_act_37 : decode cX7_act 37 = .ok (.iload_n 2, 1) := by decide +kernel
theorem dX7_act_38 : decode cX7_act 38 = .ok (.iconst 1, 1) := by decide +kernel
theorem dX7_act_39 : decode cX7_act 39 = .ok (.if_icmp .ne 12, 3) := by decide +kernel
theorem dX7_act_42 : decode cX7_act 42 = .ok (.aload_n 0, 1) := by decide +kernel
theorem dX7_act_43 : decode cX7_act 43 = .ok (.iload_n 1, 1) := by decide +kernel
theorem dX7_act_44 : decode cX7_act 44 = .ok (.iload_n 3, 1) := by decide +kernel
theorem dX7_act_45 : decode cX7_act 45 = .ok (.invokevirtual 303, 3) := by decide +kernel
theorem dX7_act_48 : decode cX7_act 48 = .ok (.goto 9, 3) := by decide +kernel
theorem dX7_act_51 : decode cX7_act 51 = .ok (.aload_n 0, 1) := by decide +kernel
theorem dX7_act_52 : decode cX7_act 52 = .ok (.iload_n 1, 1) := by decide +kernel
theorem dX7_act_53 : decode cX7_act 53 = .ok (.iload_n 3, 1) := by decide +kernel
theorem dX7_act_54 : decode cX7_act 54 = .ok (.invokevirtual 306, 3) := by decide +kernel
theorem dX7_act_57 : decode cX7_act 57 = .ok (.ireturn, 1) := by decide +kernel
theorem dX7_trace_0 : decode cX7_trace 0 = .ok (.iload_n 1, 1) := by decide +kernel
theorem dX7_trace_1 : decode cX7_trace 1 = .ok (.ifCond .lt 26, 3) := by decide +kernel
theorem dX7_trace_4 : decode cX7_trace 4 = .ok (.iload_n 1, 1) := by decide +kernel
theorem dX7_trace_5 : decode cX7_trace 5 = .ok (.bipush 20, 2) := by decide +kernel
theorem dX7_trace_7 : decode cX7_trace 7 = .ok (.if_icmp .ge 20, 3) := by decide +kernel
theorem dX7_trace_10 : decode cX7_trace 10 = .ok (.iload_n 1, 1) := by decide +kernel
theorem dX7_trace_11 : decode cX7_trace 11 = .ok (.aload_n 0, 1) := by decide +kernel
theorem dX7_trace_12 : decode cX7_trace 12 = .ok (.getfield 294, 3) := by decide +kernel
theorem dX7_trace_15 : decode cX7_trace 15 = .ok (.if_icmp .ge 12, 3) := by decide +kernel
theorem dX7_trace_18 : decode cX7_trace 18 = .ok (.aload_n 0, 1) := by decide +kernel
theorem dX7_trace_19 : decode cX7_trace 19 = .ok (.getfield 111, 3) := by decide +kernel
theorem dX7_trace_22 : decode cX7_trace 22 = .ok (.iload_n 1, 1) := by decide +kernel
theorem dX7_trace_23 : decode cX7_trace 23 = .ok (.iaload, 1) := by decide +kernel
theorem dX7_trace_24 : decode cX7_trace 24 = .ok (.goto 4, 3) := by decide +kernel
theorem dX7_trace_27 : decode cX7_trace 27 = .ok (.iconst (-1), 1) := by decide +kernel
theorem dX7_trace_28 : decode cX7_trace 28 = .ok (.ireturn, 1) := by decide +kernel
theorem dX7_image_0 : decode cX7_image 0 = .ok (.aload_n 0, 1) := by decide +kernel
theorem dX7_image_1 : decode cX7_image 1 = .ok (.iconst 1, 1) := by decide +kernel
theorem dX7_image_2 : decode cX7_image 2 = .ok (.putfield 309, 3) := by decide +kernel
theorem dX7_image_5 : decode cX7_image 5 = .ok (.aload_n 0, 1) := by decide +kernel
theorem dX7_image_6 : decode cX7_image 6 = .ok (.aload_n 0, 1) := by decide +kernel
theorem dX7_image_7 : decode cX7_image 7 = .ok (.getfield 90, 3) := by decide +kernel
theorem dX7_image_10 : decode cX7_image 10 = .ok (.iconst 0, 1) := by decide +kernel
theorem dX7_image_11 : decode cX7_image 11 = .ok (.invokevirtual 210, 3) := by decide +kernel
theorem dX7_image_14 : decode cX7_image 14 = .ok (.aload_n 0, 1) := by decide +kernel
theorem dX7_image_15 : decode cX7_image 15 = .ok (.getfield 114, 3) := by decide +kernel
theorem dX7_image_18 : decode cX7_image 18 = .ok (.ireturn, 1) := by decide +kernel
theorem dX7_restore_0 : decode cX7_restore 0 = .ok (.aload_n 0, 1) := by decide +kernel
theorem dX7_restore_1 : decode cX7_restore 1 = .ok (.getfield 309, 3) := by decide +kernel
theorem dX7_restore_4 : decode cX7_restore 4 = .ok (.ifCond .ne 10, 3) := by decide +kernel
theorem dX7_restore_7 : decode cX7_restore 7 = .ok (.aload_n 0, 1) := by decide +kernel
theorem dX7_restore_8 : decode cX7_restore 8 = .ok (.bipush (-6), 2) := by decide +kernel
theorem dX7_restore_10 : decode cX7_restore 10 = .ok (.invokevirtual 124, 3) := by decide +kernel
theorem dX7_restore_13 : decode cX7_restore 13 = .ok (.ireturn, 1) := by decide +kernel
theorem dX7_restore_14 : decode cX7_restore 14 = .ok (.aload_n 0, 1) := by decide +kernel
theorem dX7_restore_15 : decode cX7_restore 15 = .ok (.aload_n 0, 1) := by decide +kernel
theorem dX7_restore_16 : decode cX7_restore 16 = .ok (.getfield 90, 3) := by decide +kernel
theorem dX7_restore_19 : decode cX7_restore 19 = .ok (.iconst 1, 1) := by decide +kernel
theorem dX7_restore_20 : decode cX7_restore 20 = .ok (.invokevirtual 210, 3) := by decide +kernel
theorem dX7_restore_23 : decode cX7_restore 23 = .ok (.iconst 0, 1) := by decide +kernel
theorem dX7_restore_24 : decode cX7_restore 24 = .ok (.istore_n 1, 1) := by decide +kernel
theorem dX7_restore_25 : decode cX7_restore 25 = .ok (.iload_n 1, 1) := by decide +kernel
theorem dX7_restore_26 : decode cX7_restore 26 = .ok (.bipush 8, 2) := by decide +kernel
theorem dX7_restore_28 : decode cX7_restore 28 = .ok (.if_icmp .ge 39, 3) := by decide +kernel
theorem dX7_restore_31 : decode cX7_restore 31 = .ok (.aload_n 0, 1) := by decide +kernel
theorem dX7_restore_32 : decode cX7_restore 32 = .ok (.getfield 59, 3) := by decide +kernel
theorem dX7_restore_35 : decode cX7_restore 35 = .ok (.iload_n 1, 1) := by decide +kernel
theorem dX7_restore_36 : decode cX7_restore 36 = .ok (.iaload, 1) := by decide +kernel
theorem dX7_restore_37 : decode cX7_restore 37 = .ok (.iconst 2, 1) := by decide +kernel
theorem dX7_restore_38 : decode cX7_restore 38 = .ok (.if_icmp .ne 23, 3) := by decide +kernel
theorem dX7_restore_41 : decode cX7_restore 41 = .ok (.aload_n 0, 1) := by decide +kernel
theorem dX7_restore_42 : decode cX7_restore 42 = .ok (.getfield 68, 3) := by decide +kernel
theorem dX7_restore_45 : decode cX7_restore 45 = .ok (.iload_n 1, 1) := by decide +kernel
theorem dX7_restore_46 : decode cX7_restore 46 = .ok (.iaload, 1) := by decide +kernel
theorem dX7_restore_47 : decode cX7_restore 47 = .ok (.aload_n 0, 1) := by decide +kernel
theorem dX7_restore_48 : decode cX7_restore 48 = .ok (.getfield 114, 3) := by decide +kernel
theorem dX7_restore_51 : decode cX7_restore 51 = .ok (.if_icmp .lt 10, 3) := by decide +kernel
theorem dX7_restore_54 : decode cX7_restore 54 = .ok (.aload_n 0, 1) := by decide +kernel
theorem dX7_restore_55 : decode cX7_restore 55 = .ok (.getfield 59, 3) := by decide +kernel
theorem dX7_restore_58 : decode cX7_restore 58 = .ok (.iload_n 1, 1) := by decide +kernel
theorem dX7_restore_59 : decode cX7_restore 59 = .ok (.iconst 0, 1) := by decide +kernel
theorem dX7_restore_60 : decode cX7_restore 60 = .ok (.iastore, 1) := by decide +kernel
theorem dX7_restore_61 : decode cX7_restore 61 = .ok (.iinc 1 1, 3) := by decide +kernel
theorem dX7_restore_64 : decode cX7_restore 64 = .ok (.goto (-39), 3) := by decide +kernel
theorem dX7_restore_67 : decode cX7_restore 67 = .ok (.aload_n 0, 1) := by decide +kernel
theorem dX7_restore_68 : decode cX7_restore 68 = .ok (.getfield 114, 3) := by decide +kernel
theorem dX7_restore_71 : decode cX7_restore 71 = .ok (.ireturn, 1) := by decide +kernel
theorem dX7_status_0 : decode cX7_status 0 = .ok (.iload_n 1, 1) := by decide +kernel
theorem dX7_status_1 : decode cX7_status 1 = .ok (.bipush 11, 2) := by decide +kernel
theorem dX7_status_3 : decode cX7_status 3 = .ok (.if_icmp .lt 19, 3) := by decide +kernel
theorem dX7_status_6 : decode cX7_status 6 = .ok (.iload_n 1, 1) := by decide +kernel
theorem dX7_status_7 : decode cX7_status 7 = .ok (.bipush 17, 2) := by decide +kernel
theorem dX7_status_9 : decode cX7_status 9 = .ok (.if_icmp .gt 13, 3) := by decide +kernel
theorem dX7_status_12 : decode cX7_status 12 = .ok (.aload_n 0, 1) := by decide +kernel
theorem dX7_status_13 : decode cX7_status 13 = .ok (.getfield 22, 3) := by decide +kernel
theorem dX7_status_16 : decode cX7_status 16 = .ok (.iload_n 1, 1) := by decide +kernel
theorem dX7_status_17 : decode cX7_status 17 = .ok (.bipush 10, 2) := by decide +kernel
theorem dX7_status_19 : decode cX7_status 19 = .ok (.isub, 1) := by decide +kernel
theorem dX7_status_20 : decode cX7_status 20 = .ok (.iaload, 1) := by decide +kernel
theorem dX7_status_21 : decode cX7_status 21 = .ok (.ireturn, 1) := by decide +kernel
theorem dX7_status_22 : decode cX7_status 22 = .ok (.iload_n 1, 1) := by decide +kernel
theorem dX7_status_23 : decode cX7_status 23 = .ok (.tableswitch 94 0 8 #[49, 54, 59, 64, 69, 74, 79, 84, 89], 49) := by decide +kernel
theorem dX7_status_72 : decode cX7_status 72 = .ok (.aload_n 0, 1) := by decide +kernel
theorem dX7_status_73 : decode cX7_status 73 = .ok (.getfield 114, 3) := by decide +kernel
theorem dX7_status_76 : decode cX7_status 76 = .ok (.ireturn, 1) := by decide +kernel
theorem dX7_status_77 : decode cX7_status 77 = .ok (.aload_n 0, 1) := by decide +kernel
theorem dX7_status_78 : decode cX7_status 78 = .ok (.getfield 117, 3) := by decide +kernel
theorem dX7_status_81 : decode cX7_status 81 = .ok (.ireturn, 1) := by decide +kernel
theorem dX7_status_82 : decode cX7_status 82 = .ok (.aload_n 0, 1) := by decide +kernel
theorem dX7_status_83 : decode cX7_status 83 = .ok (.getfield 198, 3) := by decide +kernel
theorem dX7_status_86 : decode cX7_status 86 = .ok (.ireturn, 1) := by decide +kernel
theorem dX7_status_87 : decode cX7_status 87 = .ok (.aload_n 0, 1) := by decide +kernel
theorem dX7_status_88 : decode cX7_status 88 = .ok (.getfield 201, 3) := by decide +kernel
theorem dX7_status_91 : decode cX7_status 91 = .ok (.ireturn, 1) := by decide +kernel
theorem dX7_status_92 : decode cX7_status 92 = .ok (.aload_n 0, 1) := by decide +kernel
theorem dX7_status_93 : decode cX7_status 93 = .ok (.getfield 7, 3) := by decide +kernel
theorem dX7_status_96 : decode cX7_status 96 = .ok (.ireturn, 1) := by decide +kernel
theorem dX7_status_97 : decode cX7_status 97 = .ok (.aload_n 0, 1) := by decide +kernel
theorem dX7_status_98 : decode cX7_status 98 = .ok (.getfield 13, 3) := by decide +kernel
theorem dX7_status_101 : decode cX7_status 101 = .ok (.ireturn, 1) := by decide +kernel
theorem dX7_status_102 : decode cX7_status 102 = .ok (.aload_n 0, 1) := by decide +kernel
theorem dX7_status_103 : decode cX7_status 103 = .ok (.getfield 204, 3) := by decide +kernel
theorem dX7_status_106 : decode cX7_status 106 = .ok (.ireturn, 1) := by decide +kernel
theorem dX7_status_107 : decode cX7_status 107 = .ok (.aload_n 0, 1) := by decide +kernel
theorem dX7_status_108 : decode cX7_status 108 = .ok (.getfield 16, 3) := by decide +kernel
theorem dX7_status_111 : decode cX7_status 111 = .ok (.ireturn, 1) := by decide +kernel
theorem dX7_status_112 : decode cX7_status 112 = .ok (.aload_n 0, 1) := by decide +kernel
theorem dX7_status_113 : decode cX7_status 113 = .ok (.getfield 294, 3) := by decide +kernel
theorem dX7_status_116 : decode cX7_status 116 = .ok (.ireturn, 1) := by decide +kernel
theorem dX7_status_117 : decode cX7_status 117 = .ok (.iconst (-1), 1) := by decide +kernel
theorem dX7_status_118 : decode cX7_status 118 = .ok (.ireturn, 1) := by decide +kernel
