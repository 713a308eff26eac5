theorem dX8_copy_172 : decode cX8_copy 172 = .ok (.iload 6, 2) := by decide +kernel
theorem dX8_copy_174 : decode cX8_copy 174 = .ok (.iadd, 1) := by decide +kernel
theorem dX8_copy_175 : decode cX8_copy 175 = .ok (.aload_n 0, 1) := by decide +kernel
theorem dX8_copy_176 : decode cX8_copy 176 = .ok (.getfield 60, 3) := by decide +kernel
theorem dX8_copy_179 : decode cX8_copy 179 = .ok (.iload 6, 2) := by decide +kernel
theorem dX8_copy_181 : decode cX8_copy 181 = .ok (.iaload, 1) := by decide +kernel
theorem dX8_copy_182 : decode cX8_copy 182 = .ok (.iastore, 1) := by decide +kernel
theorem dX8_copy_183 : decode cX8_copy 183 = .ok (.iinc 6 1, 3) := by decide +kernel
theorem dX8_copy_186 : decode cX8_copy 186 = .ok (.goto (-32), 3) := by decide +kernel
theorem dX8_copy_189 : decode cX8_copy 189 = .ok (.iload 5, 2) := by decide +kernel
theorem dX8_copy_191 : decode cX8_copy 191 = .ok (.ireturn, 1) := by decide +kernel
theorem dX8_nextRow_0 : decode cX8_nextRow 0 = .ok (.iload_n 1, 1) := by decide +kernel
theorem dX8_nextRow_1 : decode cX8_nextRow 1 = .ok (.iconst 2, 1) := by decide +kernel
theorem dX8_nextRow_2 : decode cX8_nextRow 2 = .ok (.isub, 1) := by decide +kernel
theorem dX8_nextRow_3 : decode cX8_nextRow 3 = .ok (.istore_n 2, 1) := by decide +kernel
theorem dX8_nextRow_4 : decode cX8_nextRow 4 = .ok (.iload_n 2, 1) := by decide +kernel
theorem dX8_nextRow_5 : decode cX8_nextRow 5 = .ok (.ifCond .lt 26, 3) := by decide +kernel
theorem dX8_nextRow_8 : decode cX8_nextRow 8 = .ok (.aload_n 0, 1) := by decide +kernel
theorem dX8_nextRow_9 : decode cX8_nextRow 9 = .ok (.getfield 63, 3) := by decide +kernel
theorem dX8_nextRow_12 : decode cX8_nextRow 12 = .ok (.iload_n 2, 1) := by decide +kernel
theorem dX8_nextRow_13 : decode cX8_nextRow 13 = .ok (.iaload, 1) := by decide +kernel
theorem dX8_nextRow_14 : decode cX8_nextRow 14 = .ok (.aload_n 0, 1) := by decide +kernel
theorem dX8_nextRow_15 : decode cX8_nextRow 15 = .ok (.getfield 63, 3) := by decide +kernel
theorem dX8_nextRow_18 : decode cX8_nextRow 18 = .ok (.iload_n 2, 1) := by decide +kernel
theorem dX8_nextRow_19 : decode cX8_nextRow 19 = .ok (.iconst 1, 1) := by decide +kernel
theorem dX8_nextRow_20 : decode cX8_nextRow 20 = .ok (.iadd, 1) := by decide +kernel
theorem dX8_nextRow_21 : decode cX8_nextRow 21 = .ok (.iaload, 1) := by decide +kernel
theorem dX8_nextRow_22 : decode cX8_nextRow 22 = .ok (.if_icmp .le 9, 3) := by decide +kernel
theorem dX8_nextRow_25 : decode cX8_nextRow 25 = .ok (.iinc 2 (-1), 3) := by decide +kernel
theorem dX8_nextRow_28 : decode cX8_nextRow 28 = .ok (.goto (-24), 3) := by decide +kernel
theorem dX8_nextRow_31 : decode cX8_nextRow 31 = .ok (.iload_n 2, 1) := by decide +kernel
theorem dX8_nextRow_32 : decode cX8_nextRow 32 = .ok (.ifCond .ge 5, 3) := by decide +kernel
theorem dX8_nextRow_35 : decode cX8_nextRow 35 = .ok (.iconst 0, 1) := by decide +kernel
theorem dX8_nextRow_36 : decode cX8_nextRow 36 = .ok (.ireturn, 1) := by decide +kernel
theorem dX8_nextRow_37 : decode cX8_nextRow 37 = .ok (.iload_n 1, 1) := by decide +kernel
theorem dX8_nextRow_38 : decode cX8_nextRow 38 = .ok (.iconst 1, 1) := by decide +kernel
theorem dX8_nextRow_39 : decode cX8_nextRow 39 = .ok (.isub, 1) := by decide +kernel
theorem dX8_nextRow_40 : decode cX8_nextRow 40 = .ok (.istore_n 3, 1) := by decide +kernel
theorem dX8_nextRow_41 : decode cX8_nextRow 41 = .ok (.aload_n 0, 1) := by decide +kernel
theorem dX8_nextRow_42 : decode cX8_nextRow 42 = .ok (.getfield 63, 3) := by decide +kernel
theorem dX8_nextRow_45 : decode cX8_nextRow 45 = .ok (.iload_n 3, 1) := by decide +kernel
theorem dX8_nextRow_46 : decode cX8_nextRow 46 = .ok (.iaload, 1) := by decide +kernel
theorem dX8_nextRow_47 : decode cX8_nextRow 47 = .ok (.aload_n 0, 1) := by decide +kernel
theorem dX8_nextRow_48 : decode cX8_nextRow 48 = .ok (.getfield 63, 3) := by decide +kernel
theorem dX8_nextRow_51 : decode cX8_nextRow 51 = .ok (.iload_n 2, 1) := by decide +kernel
theorem dX8_nextRow_52 : decode cX8_nextRow 52 = .ok (.iaload, 1) := by decide +kernel
theorem dX8_nextRow_53 : decode cX8_nextRow 53 = .ok (.if_icmp .ge 9, 3) := by decide +kernel
theorem dX8_nextRow_56 : decode cX8_nextRow 56 = .ok (.iinc 3 (-1), 3) := by decide +kernel
theorem dX8_nextRow_59 : decode cX8_nextRow 59 = .ok (.goto (-18), 3) := by decide +kernel
theorem dX8_nextRow_62 : decode cX8_nextRow 62 = .ok (.aload_n 0, 1) := by decide +kernel
theorem dX8_nextRow_63 : decode cX8_nextRow 63 = .ok (.getfield 63, 3) := by decide +kernel
theorem dX8_nextRow_66 : decode cX8_nextRow 66 = .ok (.iload_n 2, 1) := by decide +kernel
theorem dX8_nextRow_67 : decode cX8_nextRow 67 = .ok (.iaload, 1) := by decide +kernel
theorem dX8_nextRow_68 : decode cX8_nextRow 68 = .ok (.istore 4, 2) := by decide +kernel
theorem dX8_nextRow_70 : decode cX8_nextRow 70 = .ok (.aload_n 0, 1) := by decide +kernel
theorem dX8_nextRow_71 : decode cX8_nextRow 71 = .ok (.getfield 63, 3) := by decide +kernel
theorem dX8_nextRow_74 : decode cX8_nextRow 74 = .ok (.iload_n 2, 1) := by decide +kernel
theorem dX8_nextRow_75 : decode cX8_nextRow 75 = .ok (.aload_n 0, 1) := by decide +kernel
theorem dX8_nextRow_76 : decode cX8_nextRow 76 = .ok (.getfield 63, 3) := by decide +kernel
theorem dX8_nextRow_79 : decode cX8_nextRow 79 = .ok (.iload_n 3, 1) := by decide +kernel
theorem dX8_nextRow_80 : decode cX8_nextRow 80 = .ok (.iaload, 1) := by decide +kernel
theorem dX8_nextRow_81 : decode cX8_nextRow 81 = .ok (.iastore, 1) := by decide +kernel
theorem dX8_nextRow_82 : decode cX8_nextRow 82 = .ok (.aload_n 0, 1) := by decide +kernel
theorem dX8_nextRow_83 : decode cX8_nextRow 83 = .ok (.getfield 63, 3) := by decide +kernel
theorem dX8_nextRow_86 : decode cX8_nextRow 86 = .ok (.iload_n 3, 1) := by decide +kernel
theorem dX8_nextRow_87 : decode cX8_nextRow 87 = .ok (.iload 4, 2) := by decide +kernel
theorem dX8_nextRow_89 : decode cX8_nextRow 89 = .ok (.iastore, 1) := by decide +kernel
theorem dX8_nextRow_90 : decode cX8_nextRow 90 = .ok (.iload_n 1, 1) := by decide +kernel
theorem dX8_nextRow_91 : decode cX8_nextRow 91 = .ok (.iconst 1, 1) := by decide +kernel
theorem dX8_nextRow_92 : decode cX8_nextRow 92 = .ok (.isub, 1) := by decide +kernel
theorem dX8_nextRow_93 : decode cX8_nextRow 93 = .ok (.istore 5, 2) := by decide +kernel
theorem dX8_nextRow_95 : decode cX8_nextRow 95 = .ok (.iload_n 2, 1) := by decide +kernel
theorem dX8_nextRow_96 : decode cX8_nextRow 96 = .ok (.iconst 1, 1) := by decide +kernel
theorem dX8_nextRow_97 : decode cX8_nextRow 97 = .ok (.iadd, 1) := by decide +kernel
theorem dX8_nextRow_98 : decode cX8_nextRow 98 = .ok (.istore 6, 2) := by decide +kernel
theorem dX8_nextRow_100 : decode cX8_nextRow 100 = .ok (.iload 6, 2) := by decide +kernel
theorem dX8_nextRow_102 : decode cX8_nextRow 102 = .ok (.iload 5, 2) := by decide +kernel
theorem dX8_nextRow_104 : decode cX8_nextRow 104 = .ok (.if_icmp .ge 44, 3) := by decide +kernel
theorem dX8_nextRow_107 : decode cX8_nextRow 107 = .ok (.aload_n 0, 1) := by decide +kernel
theorem dX8_nextRow_108 : decode cX8_nextRow 108 = .ok (.getfield 63, 3) := by decide +kernel
theorem dX8_nextRow_111 : decode cX8_nextRow 111 = .ok (.iload 6, 2) := by decide +kernel
theorem dX8_nextRow_113 : decode cX8_nextRow 113 = .ok (.iaload, 1) := by decide +kernel
theorem dX8_nextRow_114 : decode cX8_nextRow 114 = .ok (.istore 4, 2) := by decide +kernel
theorem dX8_nextRow_116 : decode cX8_nextRow 116 = .ok (.aload_n 0, 1) := by decide +kernel
theorem dX8_nextRow_117 : decode cX8_nextRow 117 = .ok (.getfield 63, 3) := by decide +kernel
theorem dX8_nextRow_120 : decode cX8_nextRow 120 = .ok (.iload 6, 2) := by decide +kernel
theorem dX8_nextRow_122 : decode cX8_nextRow 122 = .ok (.aload_n 0, 1) := by decide +kernel
theorem dX8_nextRow_123 : decode cX8_nextRow 123 = .ok (.getfield 63, 3) := by decide +kernel
theorem dX8_nextRow_126 : decode cX8_nextRow 126 = .ok (.iload 5, 2) := by decide +kernel
theorem dX8_nextRow_128 : decode cX8_nextRow 128 = .ok (.iaload, 1) := by decide +kernel
theorem dX8_nextRow_129 : decode cX8_nextRow 129 = .ok (.iastore, 1) := by decide +kernel
theorem dX8_nextRow_130 : decode cX8_nextRow 130 = .ok (.aload_n 0, 1) := by decide +kernel
theorem dX8_nextRow_131 : decode cX8_nextRow 131 = .ok (.getfield 63, 3) := by decide +kernel
theorem dX8_nextRow_134 : decode cX8_nextRow 134 = .ok (.iload 5, 2) := by decide +kernel
theorem dX8_nextRow_136 : decode cX8_nextRow 136 = .ok (.iload 4, 2) := by decide +kernel
theorem dX8_nextRow_138 : decode cX8_nextRow 138 = .ok (.iastore, 1) := by decide +kernel
theorem dX8_nextRow_139 : decode cX8_nextRow 139 = .ok (.iinc 5 (-1), 3) := by decide +kernel
theorem dX8_nextRow_142 : decode cX8_nextRow 142 = .ok (.iinc 6 1, 3) := by decide +kernel
theorem dX8_nextRow_145 : decode cX8_nextRow 145 = .ok (.goto (-45), 3) := by decide +kernel
theorem dX8_nextRow_148 : decode cX8_nextRow 148 = .ok (.iconst 1, 1) := by decide +kernel
theorem dX8_nextRow_149 : decode cX8_nextRow 149 = .ok (.ireturn, 1) := by decide +kernel
theorem dX8_limpSo_0 : decode cX8_limpSo 0 = .ok (.iconst 1, 1) := by decide +kernel
theorem dX8_limpSo_1 : decode cX8_limpSo 1 = .ok (.istore_n 3, 1) := by decide +kernel
theorem dX8_limpSo_2 : decode cX8_limpSo 2 = .ok (.iconst 0, 1) := by decide +kernel
theorem dX8_limpSo_3 : decode cX8_limpSo 3 = .ok (.istore 4, 2) := by decide +kernel
theorem dX8_limpSo_5 : decode cX8_limpSo 5 = .ok (.iload 4, 2) := by decide +kernel
theorem dX8_limpSo_7 : decode cX8_limpSo 7 = .ok (.iload_n 2, 1) := by decide +kernel
theorem dX8_limpSo_8 : decode cX8_limpSo 8 = .ok (.if_icmp .ge 60, 3) := by decide +kernel
theorem dX8_limpSo_11 : decode cX8_limpSo 11 = .ok (.iload_n 3, 1) := by decide +kernel
theorem dX8_limpSo_12 : decode cX8_limpSo 12 = .ok (.ifCond .eq 56, 3) := by decide +kernel
theorem dX8_limpSo_15 : decode cX8_limpSo 15 = .ok (.aload_n 0, 1) := by decide +kernel
theorem dX8_limpSo_16 : decode cX8_limpSo 16 = .ok (.iload 4, 2) := by decide +kernel
theorem dX8_limpSo_18 : decode cX8_limpSo 18 = .ok (.aload_n 0, 1) := by decide +kernel
theorem dX8_limpSo_19 : decode cX8_limpSo 19 = .ok (.getfield 35, 3) := by decide +kernel
theorem dX8_limpSo_22 : decode cX8_limpSo 22 = .ok (.aload_n 0, 1) := by decide +kernel
theorem dX8_limpSo_23 : decode cX8_limpSo 23 = .ok (.getfield 63, 3) := by decide +kernel
theorem dX8_limpSo_26 : decode cX8_limpSo 26 = .ok (.iload 4, 2) := by decide +kernel
theorem dX8_limpSo_28 : decode cX8_limpSo 28 = .ok (.iaload, 1) := by decide +kernel
theorem dX8_limpSo_29 : decode cX8_limpSo 29 = .ok (.iaload, 1) := by decide +kernel
theorem dX8_limpSo_30 : decode cX8_limpSo 30 = .ok (.aload_n 0, 1) := by decide +kernel
theorem dX8_limpSo_31 : decode cX8_limpSo 31 = .ok (.getfield 7, 3) := by decide +kernel
theorem dX8_limpSo_34 : decode cX8_limpSo 34 = .ok (.iconst 4, 1) := by decide +kernel
theorem dX8_limpSo_35 : decode cX8_limpSo 35 = .ok (.iload 4, 2) := by decide +kernel
theorem dX8_limpSo_37 : decode cX8_limpSo 37 = .ok (.imul, 1) := by decide +kernel
theorem dX8_limpSo_38 : decode cX8_limpSo 38 = .ok (.iconst 3, 1) := by decide +kernel
theorem dX8_limpSo_39 : decode cX8_limpSo 39 = .ok (.iadd, 1) := by decide +kernel
theorem dX8_limpSo_40 : decode cX8_limpSo 40 = .ok (.iaload, 1) := by decide +kernel
theorem dX8_limpSo_41 : decode cX8_limpSo 41 = .ok (.invokevirtual 205, 3) := by decide +kernel
theorem dX8_limpSo_44 : decode cX8_limpSo 44 = .ok (.aload_n 0, 1) := by decide +kernel
theorem dX8_limpSo_45 : decode cX8_limpSo 45 = .ok (.getfield 57, 3) := by decide +kernel
theorem dX8_limpSo_48 : decode cX8_limpSo 48 = .ok (.iload_n 1, 1) := by decide +kernel
theorem dX8_limpSo_49 : decode cX8_limpSo 49 = .ok (.iload 4, 2) := by decide +kernel
theorem dX8_limpSo_51 : decode cX8_limpSo 51 = .ok (.iadd, 1) := by decide +kernel
theorem dX8_limpSo_52 : decode cX8_limpSo 52 = .ok (.iaload, 1) := by decide +kernel
theorem dX8_limpSo_53 : decode cX8_limpSo 53 = .ok (.if_icmp .ne 7, 3) := by decide +kernel
theorem dX8_limpSo_56 : decode cX8_limpSo 56 = .ok (.iconst 1, 1) := by decide +kernel
theorem dX8_limpSo_57 : decode cX8_limpSo 57 = .ok (.goto 4, 3) := by decide +kernel
theorem dX8_limpSo_60 : decode cX8_limpSo 60 = .ok (.iconst 0, 1) := by decide +kernel
theorem dX8_limpSo_61 : decode cX8_limpSo 61 = .ok (.istore_n 3, 1) := by decide +kernel
theorem dX8_limpSo_62 : decode cX8_limpSo 62 = .ok (.iinc 4 1, 3) := by decide +kernel
theorem dX8_limpSo_65 : decode cX8_limpSo 65 = .ok (.goto (-60), 3) := by decide +kernel
theorem dX8_limpSo_68 : decode cX8_limpSo 68 = .ok (.iload_n 3, 1) := by decide +kernel
theorem dX8_limpSo_69 : decode cX8_limpSo 69 = .ok (.ireturn, 1) := by decide +kernel
theorem dX8_changed_0 : decode cX8_changed 0 = .ok (.iload_n 1, 1) := by decide +kernel
theorem dX8_changed_1 : decode cX8_changed 1 = .ok (.i2l, 1) := by decide +kernel
theorem dX8_changed_2 : decode cX8_changed 2 = .ok (.lconst 0, 1) := by decide +kernel
theorem dX8_changed_3 : decode cX8_changed 3 = .ok (.lconst 1, 1) := by decide +kernel
theorem dX8_changed_4 : decode cX8_changed 4 = .ok (.invokestatic 85, 3) := by decide +kernel
theorem dX8_changed_7 : decode cX8_changed 7 = .ok (.ifCond .eq 50, 3) := by decide +kernel
theorem dX8_changed_10 : decode cX8_changed 10 = .ok (.iload_n 2, 1) := by decide +kernel
theorem dX8_changed_11 : decode cX8_changed 11 = .ok (.iload_n 3, 1) := by decide +kernel
theorem dX8_changed_12 : decode cX8_changed 12 = .ok (.invokestatic 230, 3) := by decide +kernel
theorem dX8_changed_15 : decode cX8_changed 15 = .ok (.ifCond .eq 42, 3) := by decide +kernel
theorem dX8_changed_18 : decode cX8_changed 18 = .ok (.iload 5, 2) := by decide +kernel
theorem dX8_changed_20 : decode cX8_changed 20 = .ok (.i2l, 1) := by decide +kernel
theorem dX8_changed_21 : decode cX8_changed 21 = .ok (.lconst 1, 1) := by decide +kernel
theorem dX8_changed_22 : decode cX8_changed 22 = .ok (.ldc2_w 119, 3) := by decide +kernel
theorem dX8_changed_25 : decode cX8_changed 25 = .ok (.invokestatic 85, 3) := by decide +kernel
theorem dX8_changed_28 : decode cX8_changed 28 = .ok (.ifCond .eq 29, 3) := by decide +kernel
theorem dX8_changed_31 : decode cX8_changed 31 = .ok (.iload 5, 2) := by decide +kernel
theorem dX8_changed_33 : decode cX8_changed 33 = .ok (.aload_n 0, 1) := by decide +kernel
theorem dX8_changed_34 : decode cX8_changed 34 = .ok (.getfield 81, 3) := by decide +kernel
theorem dX8_changed_37 : decode cX8_changed 37 = .ok (.if_icmp .gt 20, 3) := by decide +kernel
theorem dX8_changed_40 : decode cX8_changed 40 = .ok (.iload 6, 2) := by decide +kernel
theorem dX8_changed_42 : decode cX8_changed 42 = .ok (.i2l, 1) := by decide +kernel
theorem dX8_changed_43 : decode cX8_changed 43 = .ok (.ldc2_w 200, 3) := by decide +kernel
theorem dX8_changed_46 : decode cX8_changed 46 = .ok (.iload 5, 2) := by decide +kernel
theorem dX8_changed_48 : decode cX8_changed 48 = .ok (.iconst 1, 1) := by decide +kernel
theorem dX8_changed_49 : decode cX8_changed 49 = .ok (.isub, 1) := by decide +kernel
theorem dX8_changed_50 : decode cX8_changed 50 = .ok (.i2l, 1) := by decide +kernel
theorem dX8_changed_51 : decode cX8_changed 51 = .ok (.invokestatic 85, 3) := by decide +kernel
theorem dX8_changed_54 : decode cX8_changed 54 = .ok (.ifCond .ne 5, 3) := by decide +kernel
theorem dX8_changed_57 : decode cX8_changed 57 = .ok (.iconst (-1), 1) := by decide +kernel
theorem dX8_changed_58 : decode cX8_changed 58 = .ok (.ireturn, 1) := by decide +kernel
theorem dX8_changed_59 : decode cX8_changed 59 = .ok (.aload_n 0, 1) := by decide +kernel
theorem dX8_changed_60 : decode cX8_changed 60 = .ok (.iload_n 1, 1) := by decide +kernel
theorem dX8_changed_61 : decode cX8_changed 61 = .ok (.invokevirtual 202, 3) := by decide +kernel
theorem dX8_changed_64 : decode cX8_changed 64 = .ok (.ldc 192, 2) := by decide +kernel
theorem dX8_changed_66 : decode cX8_changed 66 = .ok (.if_icmp .lt 6, 3) := by decide +kernel
theorem dX8_changed_69 : decode cX8_changed 69 = .ok (.bipush (-2), 2) := by decide +kernel
theorem dX8_changed_71 : decode cX8_changed 71 = .ok (.ireturn, 1) := by decide +kernel
theorem dX8_changed_72 : decode cX8_changed 72 = .ok (.aload_n 0, 1) := by decide +kernel
theorem dX8_changed_73 : decode cX8_changed 73 = .ok (.iload_n 2, 1) := by decide +kernel
theorem dX8_changed_74 : decode cX8_changed 74 = .ok (.iload_n 3, 1) := by decide +kernel
theorem dX8_changed_75 : decode cX8_changed 75 = .ok (.iload 4, 2) := by decide +kernel
theorem dX8_changed_77 : decode cX8_changed 77 = .ok (.iload 5, 2) := by decide +kernel
theorem dX8_changed_79 : decode cX8_changed 79 = .ok (.invokevirtual 233, 3) := by decide +kernel
theorem dX8_changed_82 : decode cX8_changed 82 = .ok (.istore 7, 2) := by decide +kernel
theorem dX8_changed_84 : decode cX8_changed 84 = .ok (.iload 7, 2) := by decide +kernel
theorem dX8_changed_86 : decode cX8_changed 86 = .ok (.ifCond .ge 6, 3) := by decide +kernel
theorem dX8_changed_89 : decode cX8_changed 89 = .ok (.iload 7, 2) := by decide +kernel
theorem dX8_changed_91 : decode cX8_changed 91 = .ok (.ireturn, 1) := by decide +kernel
theorem dX8_changed_92 : decode cX8_changed 92 = .ok (.iconst 0, 1) := by decide +kernel
theorem dX8_changed_93 : decode cX8_changed 93 = .ok (.istore 8, 2) := by decide +kernel
theorem dX8_changed_95 : decode cX8_changed 95 = .ok (.iload 8, 2) := by decide +kernel
theorem dX8_changed_97 : decode cX8_changed 97 = .ok (.iload 5, 2) := by decide +kernel
theorem dX8_changed_99 : decode cX8_changed 99 = .ok (.if_icmp .ge 18, 3) := by decide +kernel
theorem dX8_changed_102 : decode cX8_changed 102 = .ok (.aload_n 0, 1) := by decide +kernel
theorem dX8_changed_103 : decode cX8_changed 103 = .ok (.getfield 63, 3) := by decide +kernel
theorem dX8_changed_106 : decode cX8_changed 106 = .ok (.iload 8, 2) := by decide +kernel
theorem dX8_changed_108 : decode cX8_changed 108 = .ok (.iload 8, 2) := by decide +kernel
theorem dX8_changed_110 : decode cX8_changed 110 = .ok (.iastore, 1) := by decide +kernel
theorem dX8_changed_111 : decode cX8_changed 111 = .ok (.iinc 8 1, 3) := by decide +kernel
theorem dX8_changed_114 : decode cX8_changed 114 = .ok (.goto (-19), 3) := by decide +kernel
theorem dX8_changed_117 : decode cX8_changed 117 = .ok (.iconst 0, 1) := by decide +kernel
theorem dX8_changed_118 : decode cX8_changed 118 = .ok (.istore 8, 2) := by decide +kernel
theorem dX8_changed_120 : decode cX8_changed 120 = .ok (.iconst 1, 1) := by decide +kernel
theorem dX8_changed_121 : decode cX8_changed 121 = .ok (.istore 9, 2) := by decide +kernel
theorem dX8_changed_123 : decode cX8_changed 123 = .ok (.iload 9, 2) := by decide +kernel
theorem dX8_changed_125 : decode cX8_changed 125 = .ok (.ifCond .eq 68, 3) := by decide +kernel
theorem dX8_changed_128 : decode cX8_changed 128 = .ok (.aload_n 0, 1) := by decide +kernel
theorem dX8_changed_129 : decode cX8_changed 129 = .ok (.bipush 100, 2) := by decide +kernel
theorem dX8_changed_131 : decode cX8_changed 131 = .ok (.iload_n 2, 1) := by decide +kernel
theorem dX8_changed_132 : decode cX8_changed 132 = .ok (.imul, 1) := by decide +kernel
theorem dX8_changed_133 : decode cX8_changed 133 = .ok (.iload 4, 2) := by decide +kernel
theorem dX8_changed_135 : decode cX8_changed 135 = .ok (.iadd, 1) := by decide +kernel
theorem dX8_changed_136 : decode cX8_changed 136 = .ok (.iload 5, 2) := by decide +kernel
theorem dX8_changed_138 : decode cX8_changed 138 = .ok (.invokevirtual 237, 3) := by decide +kernel
theorem dX8_changed_141 : decode cX8_changed 141 = .ok (.ifCond .eq 41, 3) := by decide +kernel
theorem dX8_changed_144 : decode cX8_changed 144 = .ok (.iconst 0, 1) := by decide +kernel
theorem dX8_changed_145 : decode cX8_changed 145 = .ok (.istore 10, 2) := by decide +kernel
theorem dX8_changed_147 : decode cX8_changed 147 = .ok (.iload 10, 2) := by decide +kernel
theorem dX8_changed_149 : decode cX8_changed 149 = .ok (.iload 5, 2) := by decide +kernel
theorem dX8_changed_151 : decode cX8_changed 151 = .ok (.if_icmp .ge 28, 3) := by decide +kernel
theorem dX8_changed_154 : decode cX8_changed 154 = .ok (.iload 8, 2) := by decide +kernel
theorem dX8_changed_156 : decode cX8_changed 156 = .ok (.ifCond .ne 23, 3) := by decide +kernel
theorem dX8_changed_159 : decode cX8_changed 159 = .ok (.aload_n 0, 1) := by decide +kernel
theorem dX8_changed_160 : decode cX8_changed 160 = .ok (.getfield 66, 3) := by decide +kernel
theorem dX8_changed_163 : decode cX8_changed 163 = .ok (.iload 10, 2) := by decide +kernel
theorem dX8_changed_165 : decode cX8_changed 165 = .ok (.aload_n 0, 1) := by decide +kernel
theorem dX8_changed_166 : decode cX8_changed 166 = .ok (.getfield 63, 3) := by decide +kernel
theorem dX8_changed_169 : decode cX8_changed 169 = .ok (.iload 10, 2) := by decide +kernel
theorem dX8_changed_171 : decode cX8_changed 171 = .ok (.iaload, 1) := by decide +kernel
theorem dX8_changed_172 : decode cX8_changed 172 = .ok (.iastore, 1) := by decide +kernel
theorem dX8_changed_173 : decode cX8_changed 173 = .ok (.iinc 10 1, 3) := by decide +kernel
theorem dX8_changed_176 : decode cX8_changed 176 = .ok (.goto (-29), 3) := by decide +kernel
theorem dX8_changed_179 : decode cX8_changed 179 = .ok (.iinc 8 1, 3) := by decide +kernel
theorem dX8_changed_182 : decode cX8_changed 182 = .ok (.aload_n 0, 1) := by decide +kernel
theorem dX8_changed_183 : decode cX8_changed 183 = .ok (.iload 5, 2) := by decide +kernel
theorem dX8_changed_185 : decode cX8_changed 185 = .ok (.invokevirtual 240, 3) := by decide +kernel
theorem dX8_changed_188 : decode cX8_changed 188 = .ok (.istore 9, 2) := by decide +kernel
theorem dX8_changed_190 : decode cX8_changed 190 = .ok (.goto (-67), 3) := by decide +kernel
theorem dX8_changed_193 : decode cX8_changed 193 = .ok (.iload 8, 2) := by decide +kernel
theorem dX8_changed_195 : decode cX8_changed 195 = .ok (.ifCond .ne 8, 3) := by decide +kernel
theorem dX8_changed_198 : decode cX8_changed 198 = .ok (.bipush (-4), 2) := by decide +kernel
theorem dX8_changed_200 : decode cX8_changed 200 = .ok (.goto 20, 3) := by decide +kernel
theorem dX8_changed_203 : decode cX8_changed 203 = .ok (.iload 6, 2) := by decide +kernel
theorem dX8_changed_205 : decode cX8_changed 205 = .ok (.ifCond .ge 8, 3) := by decide +kernel
theorem dX8_changed_208 : decode cX8_changed 208 = .ok (.iload 8, 2) := by decide +kernel
theorem dX8_changed_210 : decode cX8_changed 210 = .ok (.goto 10, 3) := by decide +kernel
theorem dX8_changed_213 : decode cX8_changed 213 = .ok (.aload_n 0, 1) := by decide +kernel
theorem dX8_changed_214 : decode cX8_changed 214 = .ok (.getfield 66, 3) := by decide +kernel
theorem dX8_changed_217 : decode cX8_changed 217 = .ok (.iload 6, 2) := by decide +kernel
theorem dX8_changed_219 : decode cX8_changed 219 = .ok (.iaload, 1) := by decide +kernel
theorem dX8_changed_220 : decode cX8_changed 220 = .ok (.ireturn, 1) := by decide +kernel
theorem dX8_isRow_0 : decode cX8_isRow 0 = .ok (.iconst 0, 1) := by decide +kernel
theorem dX8_isRow_1 : decode cX8_isRow 1 = .ok (.istore_n 3, 1) := by decide +kernel
theorem dX8_isRow_2 : decode cX8_isRow 2 = .ok (.iconst 0, 1) := by decide +kernel
theorem dX8_isRow_3 : decode cX8_isRow 3 = .ok (.istore 4, 2) := by decide +kernel
theorem dX8_isRow_5 : decode cX8_isRow 5 = .ok (.iload 4, 2) := by decide +kernel
theorem dX8_isRow_7 : decode cX8_isRow 7 = .ok (.iload_n 2, 1) := by decide +kernel
theorem dX8_isRow_8 : decode cX8_isRow 8 = .ok (.if_icmp .ge 48, 3) := by decide +kernel
theorem dX8_isRow_11 : decode cX8_isRow 11 = .ok (.iload_n 3, 1) := by decide +kernel
theorem dX8_isRow_12 : decode cX8_isRow 12 = .ok (.aload_n 0, 1) := by decide +kernel
theorem dX8_isRow_13 : decode cX8_isRow 13 = .ok (.getfield 57, 3) := by decide +kernel
theorem dX8_isRow_16 : decode cX8_isRow 16 = .ok (.iload_n 1, 1) := by decide +kernel
theorem dX8_isRow_17 : decode cX8_isRow 17 = .ok (.iload 4, 2) := by decide +kernel
theorem dX8_isRow_19 : decode cX8_isRow 19 = .ok (.iadd, 1) := by decide +kernel
theorem dX8_isRow_20 : decode cX8_isRow 20 = .ok (.iaload, 1) := by decide +kernel
theorem dX8_isRow_21 : decode cX8_isRow 21 = .ok (.i2l, 1) := by decide +kernel
theorem dX8_isRow_22 : decode cX8_isRow 22 = .ok (.lconst 0, 1) := by decide +kernel
theorem dX8_isRow_23 : decode cX8_isRow 23 = .ok (.iload_n 2, 1) := by decide +kernel
theorem dX8_isRow_24 : decode cX8_isRow 24 = .ok (.iconst 1, 1) := by decide +kernel
theorem dX8_isRow_25 : decode cX8_isRow 25 = .ok (.isub, 1) := by decide +kernel
theorem dX8_isRow_26 : decode cX8_isRow 26 = .ok (.i2l, 1) := by decide +kernel
theorem dX8_isRow_27 : decode cX8_isRow 27 = .ok (.invokestatic 85, 3) := by decide +kernel
theorem dX8_isRow_30 : decode cX8_isRow 30 = .ok (.ifCond .eq 17, 3) := by decide +kernel
theorem dX8_isRow_33 : decode cX8_isRow 33 = .ok (.iconst 1, 1) := by decide +kernel
theorem dX8_isRow_34 : decode cX8_isRow 34 = .ok (.aload_n 0, 1) := by decide +kernel
theorem dX8_isRow_35 : decode cX8_isRow 35 = .ok (.getfield 57, 3) := by decide +kernel
theorem dX8_isRow_38 : decode cX8_isRow 38 = .ok (.iload_n 1, 1) := by decide +kernel
theorem dX8_isRow_39 : decode cX8_isRow 39 = .ok (.iload 4, 2) := by decide +kernel
theorem dX8_isRow_41 : decode cX8_isRow 41 = .ok (.iadd, 1) := by decide +kernel
theorem dX8_isRow_42 : decode cX8_isRow 42 = .ok (.iaload, 1) := by decide +kernel
theorem dX8_isRow_43 : decode cX8_isRow 43 = .ok (.ishl, 1) := by decide +kernel
theorem dX8_isRow_44 : decode cX8_isRow 44 = .ok (.goto 4, 3) := by decide +kernel
theorem dX8_isRow_47 : decode cX8_isRow 47 = .ok (.iconst 0, 1) := by decide +kernel
theorem dX8_isRow_48 : decode cX8_isRow 48 = .ok (.ior, 1) := by decide +kernel
theorem dX8_isRow_49 : decode cX8_isRow 49 = .ok (.istore_n 3, 1) := by decide +kernel
theorem dX8_isRow_50 : decode cX8_isRow 50 = .ok (.iinc 4 1, 3) := by decide +kernel
theorem dX8_isRow_53 : decode cX8_isRow 53 = .ok (.goto (-48), 3) := by decide +kernel
theorem dX8_isRow_56 : decode cX8_isRow 56 = .ok (.iload_n 3, 1) := by decide +kernel
theorem dX8_isRow_57 : decode cX8_isRow 57 = .ok (.iconst 1, 1) := by decide +kernel
theorem dX8_isRow_58 : decode cX8_isRow 58 = .ok (.iload_n 2, 1) := by decide +kernel
theorem dX8_isRow_59 : decode cX8_isRow 59 = .ok (.ishl, 1) := by decide +kernel
theorem dX8_isRow_60 : decode cX8_isRow 60 = .ok (.iconst 1, 1) := by decide +kernel
theorem dX8_isRow_61 : decode cX8_isRow 61 = .ok (.isub, 1) := by decide +kernel
theorem dX8_isRow_62 : decode cX8_isRow 62 = .ok (.if_icmp .ne 7, 3) := by decide +kernel
theorem dX8_isRow_65 : decode cX8_isRow 65 = .ok (.iconst 1, 1) := by decide +kernel
theorem dX8_isRow_66 : decode cX8_isRow 66 = .ok (.goto 4, 3) := by decide +kernel
theorem dX8_isRow_69 : decode cX8_isRow 69 = .ok (.iconst 0, 1) := by decide +kernel
theorem dX8_isRow_70 : decode cX8_isRow 70 = .ok (.ireturn, 1) := by decide +kernel
theorem dX8_findRanks_0 : decode cX8_findRanks 0 = .ok (.iconst 1, 1) := by decide +kernel
theorem dX8_findRanks_1 : decode cX8_findRanks 1 = .ok (.istore_n 3, 1) := by decide +kernel
theorem dX8_findRanks_2 : decode cX8_findRanks 2 = .ok (.iconst 0, 1) := by decide +kernel
theorem dX8_findRanks_3 : decode cX8_findRanks 3 = .ok (.istore 4, 2) := by decide +kernel
theorem dX8_findRanks_5 : decode cX8_findRanks 5 = .ok (.iload 4, 2) := by decide +kernel
theorem dX8_findRanks_7 : decode cX8_findRanks 7 = .ok (.iconst 2, 1) := by decide +kernel
theorem dX8_findRanks_8 : decode cX8_findRanks 8 = .ok (.iload_n 2, 1) := by decide +kernel
theorem dX8_findRanks_9 : decode cX8_findRanks 9 = .ok (.imul, 1) := by decide +kernel
theorem dX8_findRanks_10 : decode cX8_findRanks 10 = .ok (.if_icmp .ge 70, 3) := by decide +kernel
theorem dX8_findRanks_13 : decode cX8_findRanks 13 = .ok (.iload_n 3, 1) := by decide +kernel
theorem dX8_findRanks_14 : decode cX8_findRanks 14 = .ok (.ifCond .eq 66, 3) := by decide +kernel
theorem dX8_findRanks_17 : decode cX8_findRanks 17 = .ok (.aload_n 0, 1) := by decide +kernel
theorem dX8_findRanks_18 : decode cX8_findRanks 18 = .ok (.iload_n 1, 1) := by decide +kernel
theorem dX8_findRanks_19 : decode cX8_findRanks 19 = .ok (.iload_n 2, 1) := by decide +kernel
theorem dX8_findRanks_20 : decode cX8_findRanks 20 = .ok (.iload 4, 2) := by decide +kernel
theorem dX8_findRanks_22 : decode cX8_findRanks 22 = .ok (.imul, 1) := by decide +kernel
theorem dX8_findRanks_23 : decode cX8_findRanks 23 = .ok (.iadd, 1) := by decide +kernel
theorem dX8_findRanks_24 : decode cX8_findRanks 24 = .ok (.iload_n 2, 1) := by decide +kernel
theorem dX8_findRanks_25 : decode cX8_findRanks 25 = .ok (.invokevirtual 243, 3) := by decide +kernel
theorem dX8_findRanks_28 : decode cX8_findRanks 28 = .ok (.istore_n 3, 1) := by decide +kernel
theorem dX8_findRanks_29 : decode cX8_findRanks 29 = .ok (.iconst 0, 1) := by decide +kernel
theorem dX8_findRanks_30 : decode cX8_findRanks 30 = .ok (.istore 5, 2) := by decide +kernel
theorem dX8_findRanks_32 : decode cX8_findRanks 32 = .ok (.iload 5, 2) := by decide +kernel
theorem dX8_findRanks_34 : decode cX8_findRanks 34 = .ok (.iload_n 2, 1) := by decide +kernel
theorem dX8_findRanks_35 : decode cX8_findRanks 35 = .ok (.if_icmp .ge 39, 3) := by decide +kernel
theorem dX8_findRanks_38 : decode cX8_findRanks 38 = .ok (.iload_n 3, 1) := by decide +kernel
theorem dX8_findRanks_39 : decode cX8_findRanks 39 = .ok (.ifCond .eq 35, 3) := by decide +kernel
theorem dX8_findRanks_42 : decode cX8_findRanks 42 = .ok (.aload_n 0, 1) := by decide +kernel
theorem dX8_findRanks_43 : decode cX8_findRanks 43 = .ok (.getfield 69, 3) := by decide +kernel
theorem dX8_findRanks_46 : decode cX8_findRanks 46 = .ok (.iload_n 2, 1) := by decide +kernel
theorem dX8_findRanks_47 : decode cX8_findRanks 47 = .ok (.iload 4, 2) := by decide +kernel
theorem dX8_findRanks_49 : decode cX8_findRanks 49 = .ok (.imul, 1) := by decide +kernel
theorem dX8_findRanks_50 : decode cX8_findRanks 50 = .ok (.aload_n 0, 1) := by decide +kernel
theorem dX8_findRanks_51 : decode cX8_findRanks 51 = .ok (.getfield 57, 3) := by decide +kernel
theorem dX8_findRanks_54 : decode cX8_findRanks 54 = .ok (.iload_n 1, 1) := by decide +kernel
theorem dX8_findRanks_55 : decode cX8_findRanks 55 = .ok (.iload_n 2, 1) := by decide +kernel
theorem dX8_findRanks_56 : decode cX8_findRanks 56 = .ok (.iload 4, 2) := by decide +kernel
theorem dX8_findRanks_58 : decode cX8_findRanks 58 = .ok (.imul, 1) := by decide +kernel
theorem dX8_findRanks_59 : decode cX8_findRanks 59 = .ok (.iadd, 1) := by decide +kernel
theorem dX8_findRanks_60 : decode cX8_findRanks 60 = .ok (.iload 5, 2) := by decide +kernel
theorem dX8_findRanks_62 : decode cX8_findRanks 62 = .ok (.iadd, 1) := by decide +kernel
theorem dX8_findRanks_63 : decode cX8_findRanks 63 = .ok (.iaload, 1) := by decide +kernel
theorem dX8_findRanks_64 : decode cX8_findRanks 64 = .ok (.iadd, 1) := by decide +kernel
theorem dX8_findRanks_65 : decode cX8_findRanks 65 = .ok (.iload 5, 2) := by decide +kernel
theorem dX8_findRanks_67 : decode cX8_findRanks 67 = .ok (.iastore, 1) := by decide +kernel
theorem dX8_findRanks_68 : decode cX8_findRanks 68 = .ok (.iinc 5 1, 3) := by decide +kernel
theorem dX8_findRanks_71 : decode cX8_findRanks 71 = .ok (.goto (-39), 3) := by decide +kernel
theorem dX8_findRanks_74 : decode cX8_findRanks 74 = .ok (.iinc 4 1, 3) := by decide +kernel
theorem dX8_findRanks_77 : decode cX8_findRanks 77 = .ok (.goto (-72), 3) := by decide +kernel
theorem dX8_findRanks_80 : decode cX8_findRanks 80 = .ok (.iload_n 3, 1) := by decide +kernel
theorem dX8_findRanks_81 : decode cX8_findRanks 81 = .ok (.ireturn, 1) := by decide +kernel
theorem dX8_firm_0 : decode cX8_firm 0 = .ok (.iload_n 1, 1) := by decide +kernel
theorem dX8_firm_1 : decode cX8_firm 1 = .ok (.iload_n 2, 1) := by decide +kernel
theorem dX8_firm_2 : decode cX8_firm 2 = .ok (.invokestatic 230, 3) := by decide +kernel
theorem dX8_firm_5 : decode cX8_firm 5 = .ok (.ifCond .eq 33, 3) := by decide +kernel
theorem dX8_firm_8 : decode cX8_firm 8 = .ok (.iload 4, 2) := by decide +kernel
theorem dX8_firm_10 : decode cX8_firm 10 = .ok (.i2l, 1) := by decide +kernel
theorem dX8_firm_11 : decode cX8_firm 11 = .ok (.ldc2_w 228, 3) := by decide +kernel
theorem dX8_firm_14 : decode cX8_firm 14 = .ok (.ldc2_w 246, 3) := by decide +kernel
theorem dX8_firm_17 : decode cX8_firm 17 = .ok (.invokestatic 85, 3) := by decide +kernel
theorem dX8_firm_20 : decode cX8_firm 20 = .ok (.ifCond .eq 18, 3) := by decide +kernel
theorem dX8_firm_23 : decode cX8_firm 23 = .ok (.iload 5, 2) := by decide +kernel
theorem dX8_firm_25 : decode cX8_firm 25 = .ok (.i2l, 1) := by decide +kernel
theorem dX8_firm_26 : decode cX8_firm 26 = .ok (.lconst 0, 1) := by decide +kernel
theorem dX8_firm_27 : decode cX8_firm 27 = .ok (.iload 4, 2) := by decide +kernel
theorem dX8_firm_29 : decode cX8_firm 29 = .ok (.iconst 1, 1) := by decide +kernel
theorem dX8_firm_30 : decode cX8_firm 30 = .ok (.isub, 1) := by decide +kernel
theorem dX8_firm_31 : decode cX8_firm 31 = .ok (.i2l, 1) := by decide +kernel
theorem dX8_firm_32 : decode cX8_firm 32 = .ok (.invokestatic 85, 3) := by decide +kernel
theorem dX8_firm_35 : decode cX8_firm 35 = .ok (.ifCond .ne 5, 3) := by decide +kernel
theorem dX8_firm_38 : decode cX8_firm 38 = .ok (.iconst (-1), 1) := by decide +kernel
theorem dX8_firm_39 : decode cX8_firm 39 = .ok (.ireturn, 1) := by decide +kernel
theorem dX8_firm_40 : decode cX8_firm 40 = .ok (.aload_n 0, 1) := by decide +kernel
theorem dX8_firm_41 : decode cX8_firm 41 = .ok (.iload_n 1, 1) := by decide +kernel
theorem dX8_firm_42 : decode cX8_firm 42 = .ok (.iload_n 2, 1) := by decide +kernel
theorem dX8_firm_43 : decode cX8_firm 43 = .ok (.iload_n 3, 1) := by decide +kernel
theorem dX8_firm_44 : decode cX8_firm 44 = .ok (.iconst 2, 1) := by decide +kernel
theorem dX8_firm_45 : decode cX8_firm 45 = .ok (.iload 4, 2) := by decide +kernel
theorem dX8_firm_47 : decode cX8_firm 47 = .ok (.imul, 1) := by decide +kernel
theorem dX8_firm_48 : decode cX8_firm 48 = .ok (.iload 4, 2) := by decide +kernel
theorem dX8_firm_50 : decode cX8_firm 50 = .ok (.imul, 1) := by decide +kernel
theorem dX8_firm_51 : decode cX8_firm 51 = .ok (.invokevirtual 233, 3) := by decide +kernel
theorem dX8_firm_54 : decode cX8_firm 54 = .ok (.istore 6, 2) := by decide +kernel
theorem dX8_firm_56 : decode cX8_firm 56 = .ok (.iload 6, 2) := by decide +kernel
theorem dX8_firm_58 : decode cX8_firm 58 = .ok (.ifCond .ge 6, 3) := by decide +kernel
theorem dX8_firm_61 : decode cX8_firm 61 = .ok (.iload 6, 2) := by decide +kernel
theorem dX8_firm_63 : decode cX8_firm 63 = .ok (.ireturn, 1) := by decide +kernel
theorem dX8_firm_64 : decode cX8_firm 64 = .ok (.bipush 100, 2) := by decide +kernel
theorem dX8_firm_66 : decode cX8_firm 66 = .ok (.iload_n 1, 1) := by decide +kernel
theorem dX8_firm_67 : decode cX8_firm 67 = .ok (.imul, 1) := by decide +kernel
theorem dX8_firm_68 : decode cX8_firm 68 = .ok (.iload_n 3, 1) := by decide +kernel
theorem dX8_firm_69 : decode cX8_firm 69 = .ok (.iadd, 1) := by decide +kernel
theorem dX8_firm_70 : decode cX8_firm 70 = .ok (.istore 7, 2) := by decide +kernel
theorem dX8_firm_72 : decode cX8_firm 72 = .ok (.aload_n 0, 1) := by decide +kernel
theorem dX8_firm_73 : decode cX8_firm 73 = .ok (.iload 7, 2) := by decide +kernel
theorem dX8_firm_75 : decode cX8_firm 75 = .ok (.iload 4, 2) := by decide +kernel
theorem dX8_firm_77 : decode cX8_firm 77 = .ok (.invokevirtual 248, 3) := by decide +kernel
theorem dX8_firm_80 : decode cX8_firm 80 = .ok (.ifCond .ne 6, 3) := by decide +kernel
theorem dX8_firm_83 : decode cX8_firm 83 = .ok (.bipush (-2), 2) := by decide +kernel
theorem dX8_firm_85 : decode cX8_firm 85 = .ok (.ireturn, 1) := by decide +kernel
theorem dX8_firm_86 : decode cX8_firm 86 = .ok (.iconst 0, 1) := by decide +kernel
theorem dX8_firm_87 : decode cX8_firm 87 = .ok (.istore 8, 2) := by decide +kernel
theorem dX8_firm_89 : decode cX8_firm 89 = .ok (.iload 8, 2) := by decide +kernel
theorem dX8_firm_91 : decode cX8_firm 91 = .ok (.iload 4, 2) := by decide +kernel
theorem dX8_firm_93 : decode cX8_firm 93 = .ok (.if_icmp .ge 35, 3) := by decide +kernel
theorem dX8_firm_96 : decode cX8_firm 96 = .ok (.aload_n 0, 1) := by decide +kernel
theorem dX8_firm_97 : decode cX8_firm 97 = .ok (.getfield 72, 3) := by decide +kernel
theorem dX8_firm_100 : decode cX8_firm 100 = .ok (.iload 8, 2) := by decide +kernel
theorem dX8_firm_102 : decode cX8_firm 102 = .ok (.bipush (-4), 2) := by decide +kernel
theorem dX8_firm_104 : decode cX8_firm 104 = .ok (.iastore, 1) := by decide +kernel
theorem dX8_firm_105 : decode cX8_firm 105 = .ok (.aload_n 0, 1) := by decide +kernel
theorem dX8_firm_106 : decode cX8_firm 106 = .ok (.getfield 75, 3) := by decide +kernel
theorem dX8_firm_109 : decode cX8_firm 109 = .ok (.iload 8, 2) := by decide +kernel
theorem dX8_firm_111 : decode cX8_firm 111 = .ok (.bipush (-4), 2) := by decide +kernel
theorem dX8_firm_113 : decode cX8_firm 113 = .ok (.iastore, 1) := by decide +kernel
theorem dX8_firm_114 : decode cX8_firm 114 = .ok (.aload_n 0, 1) := by decide +kernel
theorem dX8_firm_115 : decode cX8_firm 115 = .ok (.getfield 78, 3) := by decide +kernel
theorem dX8_firm_118 : decode cX8_firm 118 = .ok (.iload 8, 2) := by decide +kernel
theorem dX8_firm_120 : decode cX8_firm 120 = .ok (.iconst 0, 1) := by decide +kernel
theorem dX8_firm_121 : decode cX8_firm 121 = .ok (.iastore, 1) := by decide +kernel
theorem dX8_firm_122 : decode cX8_firm 122 = .ok (.iinc 8 1, 3) := by decide +kernel
theorem dX8_firm_125 : decode cX8_firm 125 = .ok (.goto (-36), 3) := by decide +kernel
theorem dX8_firm_128 : decode cX8_firm 128 = .ok (.iconst 0, 1) := by decide +kernel
theorem dX8_firm_129 : decode cX8_firm 129 = .ok (.istore 8, 2) := by decide +kernel
theorem dX8_firm_131 : decode cX8_firm 131 = .ok (.iload 8, 2) := by decide +kernel
theorem dX8_firm_133 : decode cX8_firm 133 = .ok (.ifCond .lt 160, 3) := by decide +kernel
theorem dX8_firm_136 : decode cX8_firm 136 = .ok (.aload_n 0, 1) := by decide +kernel
theorem dX8_firm_137 : decode cX8_firm 137 = .ok (.getfield 57, 3) := by decide +kernel
theorem dX8_firm_140 : decode cX8_firm 140 = .ok (.iload 7, 2) := by decide +kernel
theorem dX8_firm_142 : decode cX8_firm 142 = .ok (.iload 4, 2) := by decide +kernel
theorem dX8_firm_144 : decode cX8_firm 144 = .ok (.iload 8, 2) := by decide +kernel
theorem dX8_firm_146 : decode cX8_firm 146 = .ok (.imul, 1) := by decide +kernel
theorem dX8_firm_147 : decode cX8_firm 147 = .ok (.iadd, 1) := by decide +kernel
theorem dX8_firm_148 : decode cX8_firm 148 = .ok (.aload_n 0, 1) := by decide +kernel
theorem dX8_firm_149 : decode cX8_firm 149 = .ok (.getfield 78, 3) := by decide +kernel
theorem dX8_firm_152 : decode cX8_firm 152 = .ok (.iload 8, 2) := by decide +kernel
theorem dX8_firm_154 : decode cX8_firm 154 = .ok (.iaload, 1) := by decide +kernel
theorem dX8_firm_155 : decode cX8_firm 155 = .ok (.iadd, 1) := by decide +kernel
theorem dX8_firm_156 : decode cX8_firm 156 = .ok (.iaload, 1) := by decide +kernel
theorem dX8_firm_157 : decode cX8_firm 157 = .ok (.istore 9, 2) := by decide +kernel
theorem dX8_firm_159 : decode cX8_firm 159 = .ok (.aload_n 0, 1) := by decide +kernel
theorem dX8_firm_160 : decode cX8_firm 160 = .ok (.getfield 78, 3) := by decide +kernel
theorem dX8_firm_163 : decode cX8_firm 163 = .ok (.iload 8, 2) := by decide +kernel
theorem dX8_firm_165 : decode cX8_firm 165 = .ok (.dup2, 1) := by decide +kernel
theorem dX8_firm_166 : decode cX8_firm 166 = .ok (.iaload, 1) := by decide +kernel
theorem dX8_firm_167 : decode cX8_firm 167 = .ok (.iconst 1, 1) := by decide +kernel
theorem dX8_firm_168 : decode cX8_firm 168 = .ok (.iadd, 1) := by decide +kernel
theorem dX8_firm_169 : decode cX8_firm 169 = .ok (.iastore, 1) := by decide +kernel
theorem dX8_firm_170 : decode cX8_firm 170 = .ok (.aload_n 0, 1) := by decide +kernel
theorem dX8_firm_171 : decode cX8_firm 171 = .ok (.getfield 75, 3) := by decide +kernel
theorem dX8_firm_174 : decode cX8_firm 174 = .ok (.iload 9, 2) := by decide +kernel
theorem dX8_firm_176 : decode cX8_firm 176 = .ok (.iaload, 1) := by decide +kernel
theorem dX8_firm_177 : decode cX8_firm 177 = .ok (.istore 10, 2) := by decide +kernel
theorem dX8_firm_179 : decode cX8_firm 179 = .ok (.iload 10, 2) := by decide +kernel
theorem dX8_firm_181 : decode cX8_firm 181 = .ok (.ifCond .lt 38, 3) := by decide +kernel
theorem dX8_firm_184 : decode cX8_firm 184 = .ok (.aload_n 0, 1) := by decide +kernel
theorem dX8_firm_185 : decode cX8_firm 185 = .ok (.getfield 69, 3) := by decide +kernel
theorem dX8_firm_188 : decode cX8_firm 188 = .ok (.iload 4, 2) := by decide +kernel
theorem dX8_firm_190 : decode cX8_firm 190 = .ok (.iload 4, 2) := by decide +kernel
theorem dX8_firm_192 : decode cX8_firm 192 = .ok (.iload 9, 2) := by decide +kernel
theorem dX8_firm_194 : decode cX8_firm 194 = .ok (.iadd, 1) := by decide +kernel
theorem dX8_firm_195 : decode cX8_firm 195 = .ok (.imul, 1) := by decide +kernel
theorem dX8_firm_196 : decode cX8_firm 196 = .ok (.iload 8, 2) := by decide +kernel
theorem dX8_firm_198 : decode cX8_firm 198 = .ok (.iadd, 1) := by decide +kernel
theorem dX8_firm_199 : decode cX8_firm 199 = .ok (.iaload, 1) := by decide +kernel
theorem dX8_firm_200 : decode cX8_firm 200 = .ok (.aload_n 0, 1) := by decide +kernel
theorem dX8_firm_201 : decode cX8_firm 201 = .ok (.getfield 69, 3) := by decide +kernel
theorem dX8_firm_204 : decode cX8_firm 204 = .ok (.iload 4, 2) := by decide +kernel
theorem dX8_firm_206 : decode cX8_firm 206 = .ok (.iload 4, 2) := by decide +kernel
theorem dX8_firm_208 : decode cX8_firm 208 = .ok (.iload 9, 2) := by decide +kernel
theorem dX8_firm_210 : decode cX8_firm 210 = .ok (.iadd, 1) := by decide +kernel
theorem dX8_firm_211 : decode cX8_firm 211 = .ok (.imul, 1) := by decide +kernel
theorem dX8_firm_212 : decode cX8_firm 212 = .ok (.iload 10, 2) := by decide +kernel
theorem dX8_firm_214 : decode cX8_firm 214 = .ok (.iadd, 1) := by decide +kernel
theorem dX8_firm_215 : decode cX8_firm 215 = .ok (.iaload, 1) := by decide +kernel
theorem dX8_firm_216 : decode cX8_firm 216 = .ok (.if_icmp .ge 35, 3) := by decide +kernel
theorem dX8_firm_219 : decode cX8_firm 219 = .ok (.aload_n 0, 1) := by decide +kernel
theorem dX8_firm_220 : decode cX8_firm 220 = .ok (.getfield 75, 3) := by decide +kernel
theorem dX8_firm_223 : decode cX8_firm 223 = .ok (.iload 9, 2) := by decide +kernel
theorem dX8_firm_225 : decode cX8_firm 225 = .ok (.iload 8, 2) := by decide +kernel
theorem dX8_firm_227 : decode cX8_firm 227 = .ok (.iastore, 1) := by decide +kernel
theorem dX8_firm_228 : decode cX8_firm 228 = .ok (.aload_n 0, 1) := by decide +kernel
theorem dX8_firm_229 : decode cX8_firm 229 = .ok (.getfield 72, 3) := by decide +kernel
theorem dX8_firm_232 : decode cX8_firm 232 = .ok (.iload 8, 2) := by decide +kernel
theorem dX8_firm_234 : decode cX8_firm 234 = .ok (.iload 9, 2) := by decide +kernel
theorem dX8_firm_236 : decode cX8_firm 236 = .ok (.iastore, 1) := by decide +kernel
theorem dX8_firm_237 : decode cX8_firm 237 = .ok (.iload 10, 2) := by decide +kernel
theorem dX8_firm_239 : decode cX8_firm 239 = .ok (.ifCond .lt 12, 3) := by decide +kernel
theorem dX8_firm_242 : decode cX8_firm 242 = .ok (.aload_n 0, 1) := by decide +kernel
theorem dX8_firm_243 : decode cX8_firm 243 = .ok (.getfield 72, 3) := by decide +kernel
theorem dX8_firm_246 : decode cX8_firm 246 = .ok (.iload 10, 2) := by decide +kernel
theorem dX8_firm_248 : decode cX8_firm 248 = .ok (.bipush (-4), 2) := by decide +kernel
theorem dX8_firm_250 : decode cX8_firm 250 = .ok (.iastore, 1) := by decide +kernel
theorem dX8_firm_251 : decode cX8_firm 251 = .ok (.bipush (-4), 2) := by decide +kernel
theorem dX8_firm_253 : decode cX8_firm 253 = .ok (.istore 8, 2) := by decide +kernel
theorem dX8_firm_255 : decode cX8_firm 255 = .ok (.iconst 0, 1) := by decide +kernel
theorem dX8_firm_256 : decode cX8_firm 256 = .ok (.istore 11, 2) := by decide +kernel
theorem dX8_firm_258 : decode cX8_firm 258 = .ok (.iload 11, 2) := by decide +kernel
theorem dX8_firm_260 : decode cX8_firm 260 = .ok (.iload 4, 2) := by decide +kernel
theorem dX8_firm_262 : decode cX8_firm 262 = .ok (.if_icmp .ge 28, 3) := by decide +kernel
theorem dX8_firm_265 : decode cX8_firm 265 = .ok (.aload_n 0, 1) := by decide +kernel
theorem dX8_firm_266 : decode cX8_firm 266 = .ok (.getfield 72, 3) := by decide +kernel
theorem dX8_firm_269 : decode cX8_firm 269 = .ok (.iload 11, 2) := by decide +kernel
theorem dX8_firm_271 : decode cX8_firm 271 = .ok (.iaload, 1) := by decide +kernel
theorem dX8_firm_272 : decode cX8_firm 272 = .ok (.ifCond .ge 8, 3) := by decide +kernel
theorem dX8_firm_275 : decode cX8_firm 275 = .ok (.iload 11, 2) := by decide +kernel
theorem dX8_firm_277 : decode cX8_firm 277 = .ok (.goto 5, 3) := by decide +kernel
theorem dX8_firm_280 : decode cX8_firm 280 = .ok (.iload 8, 2) := by decide +kernel
theorem dX8_firm_282 : decode cX8_firm 282 = .ok (.istore 8, 2) := by decide +kernel
theorem dX8_firm_284 : decode cX8_firm 284 = .ok (.iinc 11 1, 3) := by decide +kernel
theorem dX8_firm_287 : decode cX8_firm 287 = .ok (.goto (-29), 3) := by decide +kernel
theorem dX8_firm_290 : decode cX8_firm 290 = .ok (.goto (-159), 3) := by decide +kernel
theorem dX8_firm_293 : decode cX8_firm 293 = .ok (.aload_n 0, 1) := by decide +kernel
theorem dX8_firm_294 : decode cX8_firm 294 = .ok (.getfield 72, 3) := by decide +kernel
theorem dX8_firm_297 : decode cX8_firm 297 = .ok (.iload 5, 2) := by decide +kernel
theorem dX8_firm_299 : decode cX8_firm 299 = .ok (.iaload, 1) := by decide +kernel
theorem dX8_firm_300 : decode cX8_firm 300 = .ok (.ireturn, 1) := by decide +kernel
theorem dX8_judged_0 : decode cX8_judged 0 = .ok (.iload_n 1, 1) := by decide +kernel
theorem dX8_judged_1 : decode cX8_judged 1 = .ok (.iload_n 2, 1) := by decide +kernel
theorem dX8_judged_2 : decode cX8_judged 2 = .ok (.invokestatic 230, 3) := by decide +kernel
theorem dX8_judged_5 : decode cX8_judged 5 = .ok (.ifCond .eq 31, 3) := by decide +kernel
theorem dX8_judged_8 : decode cX8_judged 8 = .ok (.iload 4, 2) := by decide +kernel
theorem dX8_judged_10 : decode cX8_judged 10 = .ok (.i2l, 1) := by decide +kernel
theorem dX8_judged_11 : decode cX8_judged 11 = .ok (.ldc2_w 228, 3) := by decide +kernel
theorem dX8_judged_14 : decode cX8_judged 14 = .ok (.ldc2_w 246, 3) := by decide +kernel
theorem dX8_judged_17 : decode cX8_judged 17 = .ok (.invokestatic 85, 3) := by decide +kernel
theorem dX8_judged_20 : decode cX8_judged 20 = .ok (.ifCond .eq 16, 3) := by decide +kernel
theorem dX8_judged_23 : decode cX8_judged 23 = .ok (.iload 5, 2) := by decide +kernel
theorem dX8_judged_25 : decode cX8_judged 25 = .ok (.i2l, 1) := by decide +kernel
theorem dX8_judged_26 : decode cX8_judged 26 = .ok (.lconst 0, 1) := by decide +kernel
theorem dX8_judged_27 : decode cX8_judged 27 = .ok (.ldc2_w 108, 3) := by decide +kernel
theorem dX8_judged_30 : decode cX8_judged 30 = .ok (.invokestatic 85, 3) := by decide +kernel
theorem dX8_judged_33 : decode cX8_judged 33 = .ok (.ifCond .ne 5, 3) := by decide +kernel
theorem dX8_judged_36 : decode cX8_judged 36 = .ok (.iconst (-1), 1) := by decide +kernel
theorem dX8_judged_37 : decode cX8_judged 37 = .ok (.ireturn, 1) := by decide +kernel
theorem dX8_judged_38 : decode cX8_judged 38 = .ok (.aload_n 0, 1) := by decide +kernel
theorem dX8_judged_39 : decode cX8_judged 39 = .ok (.iload_n 1, 1) := by decide +kernel
theorem dX8_judged_40 : decode cX8_judged 40 = .ok (.iload_n 2, 1) := by decide +kernel
theorem dX8_judged_41 : decode cX8_judged 41 = .ok (.iload_n 3, 1) := by decide +kernel
theorem dX8_judged_42 : decode cX8_judged 42 = .ok (.iconst 2, 1) := by decide +kernel
theorem dX8_judged_43 : decode cX8_judged 43 = .ok (.iload 4, 2) := by decide +kernel
theorem dX8_judged_45 : decode cX8_judged 45 = .ok (.imul, 1) := by decide +kernel
theorem dX8_judged_46 : decode cX8_judged 46 = .ok (.iload 4, 2) := by decide +kernel
theorem dX8_judged_48 : decode cX8_judged 48 = .ok (.imul, 1) := by decide +kernel
theorem dX8_judged_49 : decode cX8_judged 49 = .ok (.invokevirtual 233, 3) := by decide +kernel
theorem dX8_judged_52 : decode cX8_judged 52 = .ok (.istore 6, 2) := by decide +kernel
theorem dX8_judged_54 : decode cX8_judged 54 = .ok (.iload 6, 2) := by decide +kernel
theorem dX8_judged_56 : decode cX8_judged 56 = .ok (.ifCond .ge 8, 3) := by decide +kernel
theorem dX8_judged_59 : decode cX8_judged 59 = .ok (.iload 6, 2) := by decide +kernel
theorem dX8_judged_61 : decode cX8_judged 61 = .ok (.goto 13, 3) := by decide +kernel
theorem dX8_judged_64 : decode cX8_judged 64 = .ok (.aload_n 0, 1) := by decide +kernel
theorem dX8_judged_65 : decode cX8_judged 65 = .ok (.iload 5, 2) := by decide +kernel
theorem dX8_judged_67 : decode cX8_judged 67 = .ok (.iload_n 2, 1) := by decide +kernel
theorem dX8_judged_68 : decode cX8_judged 68 = .ok (.iconst 0, 1) := by decide +kernel
theorem dX8_judged_69 : decode cX8_judged 69 = .ok (.iload 4, 2) := by decide +kernel
theorem dX8_judged_71 : decode cX8_judged 71 = .ok (.invokevirtual 233, 3) := by decide +kernel
theorem dX8_judged_74 : decode cX8_judged 74 = .ok (.istore 6, 2) := by decide +kernel
theorem dX8_judged_76 : decode cX8_judged 76 = .ok (.iload 6, 2) := by decide +kernel
theorem dX8_judged_78 : decode cX8_judged 78 = .ok (.ifCond .ge 6, 3) := by decide +kernel
theorem dX8_judged_81 : decode cX8_judged 81 = .ok (.iload 6, 2) := by decide +kernel
theorem dX8_judged_83 : decode cX8_judged 83 = .ok (.ireturn, 1) := by decide +kernel
theorem dX8_judged_84 : decode cX8_judged 84 = .ok (.aload_n 0, 1) := by decide +kernel
theorem dX8_judged_85 : decode cX8_judged 85 = .ok (.bipush 100, 2) := by decide +kernel
theorem dX8_judged_87 : decode cX8_judged 87 = .ok (.iload_n 1, 1) := by decide +kernel
theorem dX8_judged_88 : decode cX8_judged 88 = .ok (.imul, 1) := by decide +kernel
theorem dX8_judged_89 : decode cX8_judged 89 = .ok (.iload_n 3, 1) := by decide +kernel
theorem dX8_judged_90 : decode cX8_judged 90 = .ok (.iadd, 1) := by decide +kernel
theorem dX8_judged_91 : decode cX8_judged 91 = .ok (.iload 4, 2) := by decide +kernel
theorem dX8_judged_93 : decode cX8_judged 93 = .ok (.invokevirtual 248, 3) := by decide +kernel
theorem dX8_judged_96 : decode cX8_judged 96 = .ok (.ifCond .eq 17, 3) := by decide +kernel
theorem dX8_judged_99 : decode cX8_judged 99 = .ok (.aload_n 0, 1) := by decide +kernel
theorem dX8_judged_100 : decode cX8_judged 100 = .ok (.bipush 100, 2) := by decide +kernel
theorem dX8_judged_102 : decode cX8_judged 102 = .ok (.iload 5, 2) := by decide +kernel
theorem dX8_judged_104 : decode cX8_judged 104 = .ok (.imul, 1) := by decide +kernel
theorem dX8_judged_105 : decode cX8_judged 105 = .ok (.iload 4, 2) := by decide +kernel
theorem dX8_judged_107 : decode cX8_judged 107 = .ok (.invokevirtual 243, 3) := by decide +kernel
theorem dX8_judged_110 : decode cX8_judged 110 = .ok (.ifCond .ne 6, 3) := by decide +kernel
theorem dX8_judged_113 : decode cX8_judged 113 = .ok (.bipush (-2), 2) := by decide +kernel
theorem dX8_judged_115 : decode cX8_judged 115 = .ok (.ireturn, 1) := by decide +kernel
theorem dX8_judged_116 : decode cX8_judged 116 = .ok (.iconst 0, 1) := by decide +kernel
theorem dX8_judged_117 : decode cX8_judged 117 = .ok (.istore 7, 2) := by decide +kernel
theorem dX8_judged_119 : decode cX8_judged 119 = .ok (.iload 7, 2) := by decide +kernel
theorem dX8_judged_121 : decode cX8_judged 121 = .ok (.iload 4, 2) := by decide +kernel
theorem dX8_judged_123 : decode cX8_judged 123 = .ok (.if_icmp .ge 43, 3) := by decide +kernel
theorem dX8_judged_126 : decode cX8_judged 126 = .ok (.aload_n 0, 1) := by decide +kernel
theorem dX8_judged_127 : decode cX8_judged 127 = .ok (.getfield 72, 3) := by decide +kernel
theorem dX8_judged_130 : decode cX8_judged 130 = .ok (.iload 7, 2) := by decide +kernel
theorem dX8_judged_132 : decode cX8_judged 132 = .ok (.aload_n 0, 1) := by decide +kernel
theorem dX8_judged_133 : decode cX8_judged 133 = .ok (.getfield 57, 3) := by decide +kernel
theorem dX8_judged_136 : decode cX8_judged 136 = .ok (.bipush 100, 2) := by decide +kernel
theorem dX8_judged_138 : decode cX8_judged 138 = .ok (.iload 5, 2) := by decide +kernel
theorem dX8_judged_140 : decode cX8_judged 140 = .ok (.imul, 1) := by decide +kernel
theorem dX8_judged_141 : decode cX8_judged 141 = .ok (.iload 7, 2) := by decide +kernel
theorem dX8_judged_143 : decode cX8_judged 143 = .ok (.iadd, 1) := by decide +kernel
theorem dX8_judged_144 : decode cX8_judged 144 = .ok (.iaload, 1) := by decide +kernel
theorem dX8_judged_145 : decode cX8_judged 145 = .ok (.iastore, 1) := by decide +kernel
theorem dX8_judged_146 : decode cX8_judged 146 = .ok (.aload_n 0, 1) := by decide +kernel
theorem dX8_judged_147 : decode cX8_judged 147 = .ok (.getfield 75, 3) := by decide +kernel
theorem dX8_judged_150 : decode cX8_judged 150 = .ok (.aload_n 0, 1) := by decide +kernel
theorem dX8_judged_151 : decode cX8_judged 151 = .ok (.getfield 72, 3) := by decide +kernel
theorem dX8_judged_154 : decode cX8_judged 154 = .ok (.iload 7, 2) := by decide +kernel
theorem dX8_judged_156 : decode cX8_judged 156 = .ok (.iaload, 1) := by decide +kernel
theorem dX8_judged_157 : decode cX8_judged 157 = .ok (.iload 7, 2) := by decide +kernel
theorem dX8_judged_159 : decode cX8_judged 159 = .ok (.iastore, 1) := by decide +kernel
theorem dX8_judged_160 : decode cX8_judged 160 = .ok (.iinc 7 1, 3) := by decide +kernel
theorem dX8_judged_163 : decode cX8_judged 163 = .ok (.goto (-44), 3) := by decide +kernel
theorem dX8_judged_166 : decode cX8_judged 166 = .ok (.iconst 0, 1) := by decide +kernel
theorem dX8_judged_167 : decode cX8_judged 167 = .ok (.istore 7, 2) := by decide +kernel
theorem dX8_judged_169 : decode cX8_judged 169 = .ok (.iload 7, 2) := by decide +kernel
theorem dX8_judged_171 : decode cX8_judged 171 = .ok (.iload 4, 2) := by decide +kernel
theorem dX8_judged_173 : decode cX8_judged 173 = .ok (.if_icmp .ge 108, 3) := by decide +kernel
theorem dX8_judged_176 : decode cX8_judged 176 = .ok (.iconst 0, 1) := by decide +kernel
theorem dX8_judged_177 : decode cX8_judged 177 = .ok (.istore 8, 2) := by decide +kernel
theorem dX8_judged_179 : decode cX8_judged 179 = .ok (.iload 8, 2) := by decide +kernel
theorem dX8_judged_181 : decode cX8_judged 181 = .ok (.iload 4, 2) := by decide +kernel
theorem dX8_judged_183 : decode cX8_judged 183 = .ok (.if_icmp .ge 92, 3) := by decide +kernel
theorem dX8_judged_186 : decode cX8_judged 186 = .ok (.aload_n 0, 1) := by decide +kernel
theorem dX8_judged_187 : decode cX8_judged 187 = .ok (.getfield 69, 3) := by decide +kernel
theorem dX8_judged_190 : decode cX8_judged 190 = .ok (.iload 4, 2) := by decide +kernel
theorem dX8_judged_192 : decode cX8_judged 192 = .ok (.iload 7, 2) := by decide +kernel
theorem dX8_judged_194 : decode cX8_judged 194 = .ok (.imul, 1) := by decide +kernel
theorem dX8_judged_195 : decode cX8_judged 195 = .ok (.iload 8, 2) := by decide +kernel
theorem dX8_judged_197 : decode cX8_judged 197 = .ok (.iadd, 1) := by decide +kernel
theorem dX8_judged_198 : decode cX8_judged 198 = .ok (.iaload, 1) := by decide +kernel
theorem dX8_judged_199 : decode cX8_judged 199 = .ok (.aload_n 0, 1) := by decide +kernel
theorem dX8_judged_200 : decode cX8_judged 200 = .ok (.getfield 69, 3) := by decide +kernel
theorem dX8_judged_203 : decode cX8_judged 203 = .ok (.iload 4, 2) := by decide +kernel
theorem dX8_judged_205 : decode cX8_judged 205 = .ok (.iload 7, 2) := by decide +kernel
theorem dX8_judged_207 : decode cX8_judged 207 = .ok (.imul, 1) := by decide +kernel
theorem dX8_judged_208 : decode cX8_judged 208 = .ok (.aload_n 0, 1) := by decide +kernel
theorem dX8_judged_209 : decode cX8_judged 209 = .ok (.getfield 72, 3) := by decide +kernel
theorem dX8_judged_212 : decode cX8_judged 212 = .ok (.iload 7, 2) := by decide +kernel
theorem dX8_judged_214 : decode cX8_judged 214 = .ok (.iaload, 1) := by decide +kernel
theorem dX8_judged_215 : decode cX8_judged 215 = .ok (.iadd, 1) := by decide +kernel
theorem dX8_judged_216 : decode cX8_judged 216 = .ok (.iaload, 1) := by decide +kernel
theorem dX8_judged_217 : decode cX8_judged 217 = .ok (.if_icmp .ge 52, 3) := by decide +kernel
theorem dX8_judged_220 : decode cX8_judged 220 = .ok (.aload_n 0, 1) := by decide +kernel
theorem dX8_judged_221 : decode cX8_judged 221 = .ok (.getfield 69, 3) := by decide +kernel
theorem dX8_judged_224 : decode cX8_judged 224 = .ok (.iload 4, 2) := by decide +kernel
theorem dX8_judged_226 : decode cX8_judged 226 = .ok (.iload 4, 2) := by decide +kernel
theorem dX8_judged_228 : decode cX8_judged 228 = .ok (.iload 8, 2) := by decide +kernel
theorem dX8_judged_230 : decode cX8_judged 230 = .ok (.iadd, 1) := by decide +kernel
theorem dX8_judged_231 : decode cX8_judged 231 = .ok (.imul, 1) := by decide +kernel
theorem dX8_judged_232 : decode cX8_judged 232 = .ok (.iload 7, 2) := by decide +kernel
theorem dX8_judged_234 : decode cX8_judged 234 = .ok (.iadd, 1) := by decide +kernel
theorem dX8_judged_235 : decode cX8_judged 235 = .ok (.iaload, 1) := by decide +kernel
theorem dX8_judged_236 : decode cX8_judged 236 = .ok (.aload_n 0, 1) := by decide +kernel
theorem dX8_judged_237 : decode cX8_judged 237 = .ok (.getfield 69, 3) := by decide +kernel
theorem dX8_judged_240 : decode cX8_judged 240 = .ok (.iload 4, 2) := by decide +kernel
theorem dX8_judged_242 : decode cX8_judged 242 = .ok (.iload 4, 2) := by decide +kernel
theorem dX8_judged_244 : decode cX8_judged 244 = .ok (.iload 8, 2) := by decide +kernel
theorem dX8_judged_246 : decode cX8_judged 246 = .ok (.iadd, 1) := by decide +kernel
theorem dX8_judged_247 : decode cX8_judged 247 = .ok (.imul, 1) := by decide +kernel
theorem dX8_judged_248 : decode cX8_judged 248 = .ok (.aload_n 0, 1) := by decide +kernel
theorem dX8_judged_249 : decode cX8_judged 249 = .ok (.getfield 75, 3) := by decide +kernel
theorem dX8_judged_252 : decode cX8_judged 252 = .ok (.iload 8, 2) := by decide +kernel
theorem dX8_judged_254 : decode cX8_judged 254 = .ok (.iaload, 1) := by decide +kernel
theorem dX8_judged_255 : decode cX8_judged 255 = .ok (.iadd, 1) := by decide +kernel
theorem dX8_judged_256 : decode cX8_judged 256 = .ok (.iaload, 1) := by decide +kernel
theorem dX8_judged_257 : decode cX8_judged 257 = .ok (.if_icmp .ge 12, 3) := by decide +kernel
theorem dX8_judged_260 : decode cX8_judged 260 = .ok (.bipush 10, 2) := by decide +kernel
theorem dX8_judged_262 : decode cX8_judged 262 = .ok (.iload 7, 2) := by decide +kernel
theorem dX8_judged_264 : decode cX8_judged 264 = .ok (.imul, 1) := by decide +kernel
theorem dX8_judged_265 : decode cX8_judged 265 = .ok (.iload 8, 2) := by decide +kernel
theorem dX8_judged_267 : decode cX8_judged 267 = .ok (.iadd, 1) := by decide +kernel
theorem dX8_judged_268 : decode cX8_judged 268 = .ok (.ireturn, 1) := by decide +kernel
theorem dX8_judged_269 : decode cX8_judged 269 = .ok (.iinc 8 1, 3) := by decide +kernel
theorem dX8_judged_272 : decode cX8_judged 272 = .ok (.goto (-93), 3) := by decide +kernel
theorem dX8_judged_275 : decode cX8_judged 275 = .ok (.iinc 7 1, 3) := by decide +kernel
theorem dX8_judged_278 : decode cX8_judged 278 = .ok (.goto (-109), 3) := by decide +kernel
theorem dX8_judged_281 : decode cX8_judged 281 = .ok (.bipush (-4), 2) := by decide +kernel
theorem dX8_judged_283 : decode cX8_judged 283 = .ok (.ireturn, 1) := by decide +kernel
theorem dJ6_bitCount_0f7a4_0 : decode cJ6_bitCount_0f7a4 0 = .ok (.iload_n 0, 1) := by decide +kernel
theorem dJ6_bitCount_0f7a4_1 : decode cJ6_bitCount_0f7a4 1 = .ok (.iload_n 0, 1) := by decide +kernel
theorem dJ6_bitCount_0f7a4_2 : decode cJ6_bitCount_0f7a4 2 = .ok (.iconst 1, 1) := by decide +kernel
theorem dJ6_bitCount_0f7a4_3 : decode cJ6_bitCount_0f7a4 3 = .ok (.iushr, 1) := by decide +kernel
theorem dJ6_bitCount_0f7a4_4 : decode cJ6_bitCount_0f7a4 4 = .ok (.ldc_w 265, 3) := by decide +kernel
theorem dJ6_bitCount_0f7a4_7 : decode cJ6_bitCount_0f7a4 7 = .ok (.iand, 1) := by decide +kernel
theorem dJ6_bitCount_0f7a4_8 : decode cJ6_bitCount_0f7a4 8 = .ok (.isub, 1) := by decide +kernel
theorem dJ6_bitCount_0f7a4_9 : decode cJ6_bitCount_0f7a4 9 = .ok (.istore_n 0, 1) := by decide +kernel
theorem dJ6_bitCount_0f7a4_10 : decode cJ6_bitCount_0f7a4 10 = .ok (.iload_n 0, 1) := by decide +kernel
theorem dJ6_bitCount_0f7a4_11 : decode cJ6_bitCount_0f7a4 11 = .ok (.ldc_w 266, 3) := by decide +kernel
theorem dJ6_bitCount_0f7a4_14 : decode cJ6_bitCount_0f7a4 14 = .ok (.iand, 1) := by decide +kernel
theorem dJ6_bitCount_0f7a4_15 : decode cJ6_bitCount_0f7a4 15 = .ok (.iload_n 0, 1) := by decide +kernel
theorem dJ6_bitCount_0f7a4_16 : decode cJ6_bitCount_0f7a4 16 = .ok (.iconst 2, 1) := by decide +kernel
theorem dJ6_bitCount_0f7a4_17 : decode cJ6_bitCount_0f7a4 17 = .ok (.iushr, 1) := by decide +kernel
theorem dJ6_bitCount_0f7a4_18 : decode cJ6_bitCount_0f7a4 18 = .ok (.ldc_w 266, 3) := by decide +kernel
theorem dJ6_bitCount_0f7a4_21 : decode cJ6_bitCount_0f7a4 21 = .ok (.iand, 1) := by decide +kernel
theorem dJ6_bitCount_0f7a4_22 : decode cJ6_bitCount_0f7a4 22 = .ok (.iadd, 1) := by decide +kernel
theorem dJ6_bitCount_0f7a4_23 : decode cJ6_bitCount_0f7a4 23 = .ok (.istore_n 0, 1) := by decide +kernel
theorem dJ6_bitCount_0f7a4_24 : decode cJ6_bitCount_0f7a4 24 = .ok (.iload_n 0, 1) := by decide +kernel
theorem dJ6_bitCount_0f7a4_25 : decode cJ6_bitCount_0f7a4 25 = .ok (.iload_n 0, 1) := by decide +kernel
theorem dJ6_bitCount_0f7a4_26 : decode cJ6_bitCount_0f7a4 26 = .ok (.iconst 4, 1) := by decide +kernel
theorem dJ6_bitCount_0f7a4_27 : decode cJ6_bitCount_0f7a4 27 = .ok (.iushr, 1) := by decide +kernel
theorem dJ6_bitCount_0f7a4_28 : decode cJ6_bitCount_0f7a4 28 = .ok (.iadd, 1) := by decide +kernel
theorem dJ6_bitCount_0f7a4_29 : decode cJ6_bitCount_0f7a4 29 = .ok (.ldc_w 267, 3) := by decide +kernel
theorem dJ6_bitCount_0f7a4_32 : decode cJ6_bitCount_0f7a4 32 = .ok (.iand, 1) := by decide +kernel
theorem dJ6_bitCount_0f7a4_33 : decode cJ6_bitCount_0f7a4 33 = .ok (.istore_n 0, 1) := by decide +kernel
theorem dJ6_bitCount_0f7a4_34 : decode cJ6_bitCount_0f7a4 34 = .ok (.iload_n 0, 1) := by decide +kernel
theorem dJ6_bitCount_0f7a4_35 : decode cJ6_bitCount_0f7a4 35 = .ok (.iload_n 0, 1) := by decide +kernel
theorem dJ6_bitCount_0f7a4_36 : decode cJ6_bitCount_0f7a4 36 = .ok (.bipush 8, 2) := by decide +kernel
theorem dJ6_bitCount_0f7a4_38 : decode cJ6_bitCount_0f7a4 38 = .ok (.iushr, 1) := by decide +kernel
theorem dJ6_bitCount_0f7a4_39 : decode cJ6_bitCount_0f7a4 39 = .ok (.iadd, 1) := by decide +kernel
theorem dJ6_bitCount_0f7a4_40 : decode cJ6_bitCount_0f7a4 40 = .ok (.istore_n 0, 1) := by decide +kernel
theorem dJ6_bitCount_0f7a4_41 : decode cJ6_bitCount_0f7a4 41 = .ok (.iload_n 0, 1) := by decide +kernel
theorem dJ6_bitCount_0f7a4_42 : decode cJ6_bitCount_0f7a4 42 = .ok (.iload_n 0, 1) := by decide +kernel
theorem dJ6_bitCount_0f7a4_43 : decode cJ6_bitCount_0f7a4 43 = .ok (.bipush 16, 2) := by decide +kernel
theorem dJ6_bitCount_0f7a4_45 : decode cJ6_bitCount_0f7a4 45 = .ok (.iushr, 1) := by decide +kernel
theorem dJ6_bitCount_0f7a4_46 : decode cJ6_bitCount_0f7a4 46 = .ok (.iadd, 1) := by decide +kernel
theorem dJ6_bitCount_0f7a4_47 : decode cJ6_bitCount_0f7a4 47 = .ok (.istore_n 0, 1) := by decide +kernel
theorem dJ6_bitCount_0f7a4_48 : decode cJ6_bitCount_0f7a4 48 = .ok (.iload_n 0, 1) := by decide +kernel
theorem dJ6_bitCount_0f7a4_49 : decode cJ6_bitCount_0f7a4 49 = .ok (.bipush 63, 2) := by decide +kernel
theorem dJ6_bitCount_0f7a4_51 : decode cJ6_bitCount_0f7a4 51 = .ok (.iand, 1) := by decide +kernel
theorem dJ6_bitCount_0f7a4_52 : decode cJ6_bitCount_0f7a4 52 = .ok (.ireturn, 1) := by decide +kernel
theorem dJ9_max_7cf53_0 : decode cJ9_max_7cf53 0 = .ok (.iload_n 0, 1) := by decide +kernel
theorem dJ9_max_7cf53_1 : decode cJ9_max_7cf53 1 = .ok (.iload_n 1, 1) := by decide +kernel
theorem dJ9_max_7cf53_2 : decode cJ9_max_7cf53 2 = .ok (.if_icmp .lt 7, 3) := by decide +kernel
theorem dJ9_max_7cf53_5 : decode cJ9_max_7cf53 5 = .ok (.iload_n 0, 1) := by decide +kernel
theorem dJ9_max_7cf53_6 : decode cJ9_max_7cf53 6 = .ok (.goto 4, 3) := by decide +kernel
theorem dJ9_max_7cf53_9 : decode cJ9_max_7cf53 9 = .ok (.iload_n 1, 1) := by decide +kernel
theorem dJ9_max_7cf53_10 : decode cJ9_max_7cf53 10 = .ok (.ireturn, 1) := by decide +kernel
theorem dJ9_min_7cf53_0 : decode cJ9_min_7cf53 0 = .ok (.iload_n 0, 1) := by decide +kernel
theorem dJ9_min_7cf53_1 : decode cJ9_min_7cf53 1 = .ok (.iload_n 1, 1) := by decide +kernel
theorem dJ9_min_7cf53_2 : decode cJ9_min_7cf53 2 = .ok (.if_icmp .gt 7, 3) := by decide +kernel
theorem dJ9_min_7cf53_5 : decode cJ9_min_7cf53 5 = .ok (.iload_n 0, 1) := by decide +kernel
theorem dJ9_min_7cf53_6 : decode cJ9_min_7cf53 6 = .ok (.goto 4, 3) := by decide +kernel
theorem dJ9_min_7cf53_9 : decode cJ9_min_7cf53 9 = .ok (.iload_n 1, 1) := by decide +kernel
theorem dJ9_min_7cf53_10 : decode cJ9_min_7cf53 10 = .ok (.ireturn, 1) := by decide +kernel
theorem dJ7_fill_d0a16_0 : decode cJ7_fill_d0a16 0 = .ok (.iconst 0, 1) := by decide +kernel
theorem dJ7_fill_d0a16_1 : decode cJ7_fill_d0a16 1 = .ok (.istore_n 3, 1) := by decide +kernel
theorem dJ7_fill_d0a16_2 : decode cJ7_fill_d0a16 2 = .ok (.aload_n 0, 1) := by decide +kernel
theorem dJ7_fill_d0a16_3 : decode cJ7_fill_d0a16 3 = .ok (.arraylength, 1) := by decide +kernel
theorem dJ7_fill_d0a16_4 : decode cJ7_fill_d0a16 4 = .ok (.istore 4, 2) := by decide +kernel
theorem dJ7_fill_d0a16_6 : decode cJ7_fill_d0a16 6 = .ok (.iload_n 3, 1) := by decide +kernel
theorem dJ7_fill_d0a16_7 : decode cJ7_fill_d0a16 7 = .ok (.iload 4, 2) := by decide +kernel
theorem dJ7_fill_d0a16_9 : decode cJ7_fill_d0a16 9 = .ok (.if_icmp .ge 13, 3) := by decide +kernel
theorem dJ7_fill_d0a16_12 : decode cJ7_fill_d0a16 12 = .ok (.aload_n 0, 1) := by decide +kernel
theorem dJ7_fill_d0a16_13 : decode cJ7_fill_d0a16 13 = .ok (.iload_n 3, 1) := by decide +kernel
theorem dJ7_fill_d0a16_14 : decode cJ7_fill_d0a16 14 = .ok (.lload_n 1, 1) := by decide +kernel
theorem dJ7_fill_d0a16_15 : decode cJ7_fill_d0a16 15 = .ok (.lastore, 1) := by decide +kernel
theorem dJ7_fill_d0a16_16 : decode cJ7_fill_d0a16 16 = .ok (.iinc 3 1, 3) := by decide +kernel
theorem dJ7_fill_d0a16_19 : decode cJ7_fill_d0a16 19 = .ok (.goto (-13), 3) := by decide +kernel
theorem dJ7_fill_d0a16_22 : decode cJ7_fill_d0a16 22 = .ok (.return_, 1) := by decide +kernel
theorem dJ7_fill_53178_0 : decode cJ7_fill_53178 0 = .ok (.iconst 0, 1) := by decide +kernel
theorem dJ7_fill_53178_1 : decode cJ7_fill_53178 1 = .ok (.istore_n 2, 1) := by decide +kernel
theorem dJ7_fill_53178_2 : decode cJ7_fill_53178 2 = .ok (.aload_n 0, 1) := by decide +kernel
theorem dJ7_fill_53178_3 : decode cJ7_fill_53178 3 = .ok (.arraylength, 1) := by decide +kernel
theorem dJ7_fill_53178_4 : decode cJ7_fill_53178 4 = .ok (.istore_n 3, 1) := by decide +kernel
theorem dJ7_fill_53178_5 : decode cJ7_fill_53178 5 = .ok (.iload_n 2, 1) := by decide +kernel
theorem dJ7_fill_53178_6 : decode cJ7_fill_53178 6 = .ok (.iload_n 3, 1) := by decide +kernel
theorem dJ7_fill_53178_7 : decode cJ7_fill_53178 7 = .ok (.if_icmp .ge 13, 3) := by decide +kernel
theorem dJ7_fill_53178_10 : decode cJ7_fill_53178 10 = .ok (.aload_n 0, 1) := by decide +kernel
theorem dJ7_fill_53178_11 : decode cJ7_fill_53178 11 = .ok (.iload_n 2, 1) := by decide +kernel
theorem dJ7_fill_53178_12 : decode cJ7_fill_53178 12 = .ok (.iload_n 1, 1) := by decide +kernel
theorem dJ7_fill_53178_13 : decode cJ7_fill_53178 13 = .ok (.iastore, 1) := by decide +kernel
theorem dJ7_fill_53178_14 : decode cJ7_fill_53178 14 = .ok (.iinc 2 1, 3) := by decide +kernel
theorem dJ7_fill_53178_17 : decode cJ7_fill_53178 17 = .ok (.goto (-12), 3) := by decide +kernel
theorem dJ7_fill_53178_20 : decode cJ7_fill_53178 20 = .ok (.return_, 1) := by decide +kernel
theorem dL_law_0 : decode cL_law 0 = .ok (.new 7, 3) := by decide +kernel
theorem dL_law_3 : decode cL_law 3 = .ok (.dup, 1) := by decide +kernel
theorem dL_law_4 : decode cL_law 4 = .ok (.invokespecial 9, 3) := by decide +kernel
theorem dL_law_7 : decode cL_law 7 = .ok (.astore_n 1, 1) := by decide +kernel
theorem dL_law_8 : decode cL_law 8 = .ok (.new 10, 3) := by decide +kernel
theorem dL_law_11 : decode cL_law 11 = .ok (.dup, 1) := by decide +kernel
theorem dL_law_12 : decode cL_law 12 = .ok (.invokespecial 12, 3) := by decide +kernel
theorem dL_law_15 : decode cL_law 15 = .ok (.astore_n 2, 1) := by decide +kernel
theorem dL_law_16 : decode cL_law 16 = .ok (.iconst 0, 1) := by decide +kernel
theorem dL_law_17 : decode cL_law 17 = .ok (.istore_n 3, 1) := by decide +kernel
theorem dL_law_18 : decode cL_law 18 = .ok (.iload_n 3, 1) := by decide +kernel
theorem dL_law_19 : decode cL_law 19 = .ok (.aload_n 0, 1) := by decide +kernel
theorem dL_law_20 : decode cL_law 20 = .ok (.arraylength, 1) := by decide +kernel
theorem dL_law_21 : decode cL_law 21 = .ok (.bipush 7, 2) := by decide +kernel
theorem dL_law_23 : decode cL_law 23 = .ok (.isub, 1) := by decide +kernel
theorem dL_law_24 : decode cL_law 24 = .ok (.if_icmp .gt 1207, 3) := by decide +kernel
theorem dL_law_27 : decode cL_law 27 = .ok (.aload_n 0, 1) := by decide +kernel
theorem dL_law_28 : decode cL_law 28 = .ok (.iload_n 3, 1) := by decide +kernel
theorem dL_law_29 : decode cL_law 29 = .ok (.iaload, 1) := by decide +kernel
theorem dL_law_30 : decode cL_law 30 = .ok (.bipush 31, 2) := by decide +kernel
theorem dL_law_32 : decode cL_law 32 = .ok (.iand, 1) := by decide +kernel
theorem dL_law_33 : decode cL_law 33 = .ok (.tableswitch 1192 0 26 #[123, 176, 219, 262, 295, 344, 377, 420, 463, 496, 559, 572, 585, 608, 641, 664, 687, 730, 783, 796, 809, 884, 947, 1010, 1053, 1076, 1129], 123) := by decide +kernel
theorem dL_law_156 : decode cL_law 156 = .ok (.aload_n 1, 1) := by decide +kernel
theorem dL_law_157 : decode cL_law 157 = .ok (.aload_n 0, 1) := by decide +kernel
theorem dL_law_158 : decode cL_law 158 = .ok (.iload_n 3, 1) := by decide +kernel
theorem dL_law_159 : decode cL_law 159 = .ok (.iconst 1, 1) := by decide +kernel
theorem dL_law_160 : decode cL_law 160 = .ok (.iadd, 1) := by decide +kernel
theorem dL_law_161 : decode cL_law 161 = .ok (.iaload, 1) := by decide +kernel
theorem dL_law_162 : decode cL_law 162 = .ok (.aload_n 0, 1) := by decide +kernel
theorem dL_law_163 : decode cL_law 163 = .ok (.iload_n 3, 1) := by decide +kernel
theorem dL_law_164 : decode cL_law 164 = .ok (.iconst 2, 1) := by decide +kernel
theorem dL_law_165 : decode cL_law 165 = .ok (.iadd, 1) := by decide +kernel
theorem dL_law_166 : decode cL_law 166 = .ok (.iaload, 1) := by decide +kernel
theorem dL_law_167 : decode cL_law 167 = .ok (.aload_n 0, 1) := by decide +kernel
theorem dL_law_168 : decode cL_law 168 = .ok (.iload_n 3, 1) := by decide +kernel
theorem dL_law_169 : decode cL_law 169 = .ok (.iconst 3, 1) := by decide +kernel
theorem dL_law_170 : decode cL_law 170 = .ok (.iadd, 1) := by decide +kernel
theorem dL_law_171 : decode cL_law 171 = .ok (.iaload, 1) := by decide +kernel
theorem dL_law_172 : decode cL_law 172 = .ok (.aload_n 0, 1) := by decide +kernel
theorem dL_law_173 : decode cL_law 173 = .ok (.iload_n 3, 1) := by decide +kernel
theorem dL_law_174 : decode cL_law 174 = .ok (.iconst 4, 1) := by decide +kernel
theorem dL_law_175 : decode cL_law 175 = .ok (.iadd, 1) := by decide +kernel
theorem dL_law_176 : decode cL_law 176 = .ok (.iaload, 1) := by decide +kernel
theorem dL_law_177 : decode cL_law 177 = .ok (.invokevirtual 13, 3) := by decide +kernel
theorem dL_law_180 : decode cL_law 180 = .ok (.aload_n 2, 1) := by decide +kernel
theorem dL_law_181 : decode cL_law 181 = .ok (.aload_n 0, 1) := by decide +kernel
theorem dL_law_182 : decode cL_law 182 = .ok (.iload_n 3, 1) := by decide +kernel
theorem dL_law_183 : decode cL_law 183 = .ok (.iconst 1, 1) := by decide +kernel
theorem dL_law_184 : decode cL_law 184 = .ok (.iadd, 1) := by decide +kernel
theorem dL_law_185 : decode cL_law 185 = .ok (.iaload, 1) := by decide +kernel
theorem dL_law_186 : decode cL_law 186 = .ok (.aload_n 0, 1) := by decide +kernel
theorem dL_law_187 : decode cL_law 187 = .ok (.iload_n 3, 1) := by decide +kernel
theorem dL_law_188 : decode cL_law 188 = .ok (.iconst 2, 1) := by decide +kernel
theorem dL_law_189 : decode cL_law 189 = .ok (.iadd, 1) := by decide +kernel
theorem dL_law_190 : decode cL_law 190 = .ok (.iaload, 1) := by decide +kernel
theorem dL_law_191 : decode cL_law 191 = .ok (.aload_n 0, 1) := by decide +kernel
theorem dL_law_192 : decode cL_law 192 = .ok (.iload_n 3, 1) := by decide +kernel
theorem dL_law_193 : decode cL_law 193 = .ok (.iconst 3, 1) := by decide +kernel
theorem dL_law_194 : decode cL_law 194 = .ok (.iadd, 1) := by decide +kernel
theorem dL_law_195 : decode cL_law 195 = .ok (.iaload, 1) := by decide +kernel
theorem dL_law_196 : decode cL_law 196 = .ok (.aload_n 0, 1) := by decide +kernel
theorem dL_law_197 : decode cL_law 197 = .ok (.iload_n 3, 1) := by decide +kernel
theorem dL_law_198 : decode cL_law 198 = .ok (.iconst 4, 1) := by decide +kernel
theorem dL_law_199 : decode cL_law 199 = .ok (.iadd, 1) := by decide +kernel
theorem dL_law_200 : decode cL_law 200 = .ok (.iaload, 1) := by decide +kernel
theorem dL_law_201 : decode cL_law 201 = .ok (.invokevirtual 17, 3) := by decide +kernel
theorem dL_law_204 : decode cL_law 204 = .ok (.if_icmp .eq 1021, 3) := by decide +kernel
theorem dL_law_207 : decode cL_law 207 = .ok (.iconst 0, 1) := by decide +kernel
theorem dL_law_208 : decode cL_law 208 = .ok (.ireturn, 1) := by decide +kernel
theorem dL_law_209 : decode cL_law 209 = .ok (.aload_n 1, 1) := by decide +kernel
theorem dL_law_210 : decode cL_law 210 = .ok (.aload_n 0, 1) := by decide +kernel
theorem dL_law_211 : decode cL_law 211 = .ok (.iload_n 3, 1) := by decide +kernel
theorem dL_law_212 : decode cL_law 212 = .ok (.iconst 1, 1) := by decide +kernel
theorem dL_law_213 : decode cL_law 213 = .ok (.iadd, 1) := by decide +kernel
theorem dL_law_214 : decode cL_law 214 = .ok (.iaload, 1) := by decide +kernel
theorem dL_law_215 : decode cL_law 215 = .ok (.aload_n 0, 1) := by decide +kernel
theorem dL_law_216 : decode cL_law 216 = .ok (.iload_n 3, 1) := by decide +kernel
theorem dL_law_217 : decode cL_law 217 = .ok (.iconst 2, 1) := by decide +kernel
theorem dL_law_218 : decode cL_law 218 = .ok (.iadd, 1) := by decide +kernel
theorem dL_law_219 : decode cL_law 219 = .ok (.iaload, 1) := by decide +kernel
theorem dL_law_220 : decode cL_law 220 = .ok (.aload_n 0, 1) := by decide +kernel
theorem dL_law_221 : decode cL_law 221 = .ok (.iload_n 3, 1) := by decide +kernel
theorem dL_law_222 : decode cL_law 222 = .ok (.iconst 3, 1) := by decide +kernel
theorem dL_law_223 : decode cL_law 223 = .ok (.iadd, 1) := by decide +kernel
theorem dL_law_224 : decode cL_law 224 = .ok (.iaload, 1) := by decide +kernel
theorem dL_law_225 : decode cL_law 225 = .ok (.invokevirtual 18, 3) := by decide +kernel
theorem dL_law_228 : decode cL_law 228 = .ok (.aload_n 2, 1) := by decide +kernel
theorem dL_law_229 : decode cL_law 229 = .ok (.aload_n 0, 1) := by decide +kernel
theorem dL_law_230 : decode cL_law 230 = .ok (.iload_n 3, 1) := by decide +kernel
theorem dL_law_231 : decode cL_law 231 = .ok (.iconst 1, 1) := by decide +kernel
theorem dL_law_232 : decode cL_law 232 = .ok (.iadd, 1) := by decide +kernel
theorem dL_law_233 : decode cL_law 233 = .ok (.iaload, 1) := by decide +kernel
theorem dL_law_234 : decode cL_law 234 = .ok (.aload_n 0, 1) := by decide +kernel
theorem dL_law_235 : decode cL_law 235 = .ok (.iload_n 3, 1) := by decide +kernel
theorem dL_law_236 : decode cL_law 236 = .ok (.iconst 2, 1) := by decide +kernel
theorem dL_law_237 : decode cL_law 237 = .ok (.iadd, 1) := by decide +kernel
theorem dL_law_238 : decode cL_law 238 = .ok (.iaload, 1) := by decide +kernel
theorem dL_law_239 : decode cL_law 239 = .ok (.aload_n 0, 1) := by decide +kernel
theorem dL_law_240 : decode cL_law 240 = .ok (.iload_n 3, 1) := by decide +kernel
theorem dL_law_241 : decode cL_law 241 = .ok (.iconst 3, 1) := by decide +kernel
theorem dL_law_242 : decode cL_law 242 = .ok (.iadd, 1) := by decide +kernel
theorem dL_law_243 : decode cL_law 243 = .ok (.iaload, 1) := by decide +kernel
theorem dL_law_244 : decode cL_law 244 = .ok (.invokevirtual 22, 3) := by decide +kernel
theorem dL_law_247 : decode cL_law 247 = .ok (.if_icmp .eq 978, 3) := by decide +kernel
theorem dL_law_250 : decode cL_law 250 = .ok (.iconst 0, 1) := by decide +kernel
theorem dL_law_251 : decode cL_law 251 = .ok (.ireturn, 1) := by decide +kernel
theorem dL_law_252 : decode cL_law 252 = .ok (.aload_n 1, 1) := by decide +kernel
theorem dL_law_253 : decode cL_law 253 = .ok (.aload_n 0, 1) := by decide +kernel
theorem dL_law_254 : decode cL_law 254 = .ok (.iload_n 3, 1) := by decide +kernel
theorem dL_law_255 : decode cL_law 255 = .ok (.iconst 1, 1) := by decide +kernel
theorem dL_law_256 : decode cL_law 256 = .ok (.iadd, 1) := by decide +kernel
theorem dL_law_257 : decode cL_law 257 = .ok (.iaload, 1) := by decide +kernel
theorem dL_law_258 : decode cL_law 258 = .ok (.aload_n 0, 1) := by decide +kernel
theorem dL_law_259 : decode cL_law 259 = .ok (.iload_n 3, 1) := by decide +kernel
theorem dL_law_260 : decode cL_law 260 = .ok (.iconst 2, 1) := by decide +kernel
theorem dL_law_261 : decode cL_law 261 = .ok (.iadd, 1) := by decide +kernel
theorem dL_law_262 : decode cL_law 262 = .ok (.iaload, 1) := by decide +kernel
theorem dL_law_263 : decode cL_law 263 = .ok (.aload_n 0, 1) := by decide +kernel
theorem dL_law_264 : decode cL_law 264 = .ok (.iload_n 3, 1) := by decide +kernel
theorem dL_law_265 : decode cL_law 265 = .ok (.iconst 3, 1) := by decide +kernel
theorem dL_law_266 : decode cL_law 266 = .ok (.iadd, 1) := by decide +kernel
theorem dL_law_267 : decode cL_law 267 = .ok (.iaload, 1) := by decide +kernel
theorem dL_law_268 : decode cL_law 268 = .ok (.invokevirtual 23, 3) := by decide +kernel
theorem dL_law_271 : decode cL_law 271 = .ok (.aload_n 2, 1) := by decide +kernel
theorem dL_law_272 : decode cL_law 272 = .ok (.aload_n 0, 1) := by decide +kernel
theorem dL_law_273 : decode cL_law 273 = .ok (.iload_n 3, 1) := by decide +kernel
theorem dL_law_274 : decode cL_law 274 = .ok (.iconst 1, 1) := by decide +kernel
theorem dL_law_275 : decode cL_law 275 = .ok (.iadd, 1) := by decide +kernel
theorem dL_law_276 : decode cL_law 276 = .ok (.iaload, 1) := by decide +kernel
theorem dL_law_277 : decode cL_law 277 = .ok (.aload_n 0, 1) := by decide +kernel
theorem dL_law_278 : decode cL_law 278 = .ok (.iload_n 3, 1) := by decide +kernel
theorem dL_law_279 : decode cL_law 279 = .ok (.iconst 2, 1) := by decide +kernel
theorem dL_law_280 : decode cL_law 280 = .ok (.iadd, 1) := by decide +kernel
theorem dL_law_281 : decode cL_law 281 = .ok (.iaload, 1) := by decide +kernel
theorem dL_law_282 : decode cL_law 282 = .ok (.aload_n 0, 1) := by decide +kernel
theorem dL_law_283 : decode cL_law 283 = .ok (.iload_n 3, 1) := by decide +kernel
theorem dL_law_284 : decode cL_law 284 = .ok (.iconst 3, 1) := by decide +kernel
theorem dL_law_285 : decode cL_law 285 = .ok (.iadd, 1) := by decide +kernel
theorem dL_law_286 : decode cL_law 286 = .ok (.iaload, 1) := by decide +kernel
theorem dL_law_287 : decode cL_law 287 = .ok (.invokevirtual 26, 3) := by decide +kernel
theorem dL_law_290 : decode cL_law 290 = .ok (.if_icmp .eq 935, 3) := by decide +kernel
theorem dL_law_293 : decode cL_law 293 = .ok (.iconst 0, 1) := by decide +kernel
theorem dL_law_294 : decode cL_law 294 = .ok (.ireturn, 1) := by decide +kernel
theorem dL_law_295 : decode cL_law 295 = .ok (.aload_n 1, 1) := by decide +kernel
theorem dL_law_296 : decode cL_law 296 = .ok (.aload_n 0, 1) := by decide +kernel
theorem dL_law_297 : decode cL_law 297 = .ok (.iload_n 3, 1) := by decide +kernel
theorem dL_law_298 : decode cL_law 298 = .ok (.iconst 1, 1) := by decide +kernel
theorem dL_law_299 : decode cL_law 299 = .ok (.iadd, 1) := by decide +kernel
theorem dL_law_300 : decode cL_law 300 = .ok (.iaload, 1) := by decide +kernel
theorem dL_law_301 : decode cL_law 301 = .ok (.aload_n 0, 1) := by decide +kernel
theorem dL_law_302 : decode cL_law 302 = .ok (.iload_n 3, 1) := by decide +kernel
theorem dL_law_303 : decode cL_law 303 = .ok (.iconst 2, 1) := by decide +kernel
theorem dL_law_304 : decode cL_law 304 = .ok (.iadd, 1) := by decide +kernel
theorem dL_law_305 : decode cL_law 305 = .ok (.iaload, 1) := by decide +kernel
theorem dL_law_306 : decode cL_law 306 = .ok (.invokevirtual 27, 3) := by decide +kernel
theorem dL_law_309 : decode cL_law 309 = .ok (.aload_n 2, 1) := by decide +kernel
theorem dL_law_310 : decode cL_law 310 = .ok (.aload_n 0, 1) := by decide +kernel
theorem dL_law_311 : decode cL_law 311 = .ok (.iload_n 3, 1) := by decide +kernel
theorem dL_law_312 : decode cL_law 312 = .ok (.iconst 1, 1) := by decide +kernel
theorem dL_law_313 : decode cL_law 313 = .ok (.iadd, 1) := by decide +kernel
theorem dL_law_314 : decode cL_law 314 = .ok (.iaload, 1) := by decide +kernel
theorem dL_law_315 : decode cL_law 315 = .ok (.aload_n 0, 1) := by decide +kernel
theorem dL_law_316 : decode cL_law 316 = .ok (.iload_n 3, 1) := by decide +kernel
theorem dL_law_317 : decode cL_law 317 = .ok (.iconst 2, 1) := by decide +kernel
theorem dL_law_318 : decode cL_law 318 = .ok (.iadd, 1) := by decide +kernel
theorem dL_law_319 : decode cL_law 319 = .ok (.iaload, 1) := by decide +kernel
theorem dL_law_320 : decode cL_law 320 = .ok (.invokevirtual 31, 3) := by decide +kernel
theorem dL_law_323 : decode cL_law 323 = .ok (.if_icmp .eq 902, 3) := by decide +kernel
theorem dL_law_326 : decode cL_law 326 = .ok (.iconst 0, 1) := by decide +kernel
theorem dL_law_327 : decode cL_law 327 = .ok (.ireturn, 1) := by decide +kernel
theorem dL_law_328 : decode cL_law 328 = .ok (.aload_n 1, 1) := by decide +kernel
theorem dL_law_329 : decode cL_law 329 = .ok (.aload_n 0, 1) := by decide +kernel
theorem dL_law_330 : decode cL_law 330 = .ok (.iload_n 3, 1) := by decide +kernel
theorem dL_law_331 : decode cL_law 331 = .ok (.iconst 1, 1) := by decide +kernel
theorem dL_law_332 : decode cL_law 332 = .ok (.iadd, 1) := by decide +kernel
theorem dL_law_333 : decode cL_law 333 = .ok (.iaload, 1) := by decide +kernel
theorem dL_law_334 : decode cL_law 334 = .ok (.aload_n 0, 1) := by decide +kernel
theorem dL_law_335 : decode cL_law 335 = .ok (.iload_n 3, 1) := by decide +kernel
theorem dL_law_336 : decode cL_law 336 = .ok (.iconst 2, 1) := by decide +kernel
theorem dL_law_337 : decode cL_law 337 = .ok (.iadd, 1) := by decide +kernel
theorem dL_law_338 : decode cL_law 338 = .ok (.iaload, 1) := by decide +kernel
theorem dL_law_339 : decode cL_law 339 = .ok (.ifCond .eq 7, 3) := by decide +kernel
theorem dL_law_342 : decode cL_law 342 = .ok (.iconst 1, 1) := by decide +kernel
theorem dL_law_343 : decode cL_law 343 = .ok (.goto 4, 3) := by decide +kernel
theorem dL_law_346 : decode cL_law 346 = .ok (.iconst 0, 1) := by decide +kernel
theorem dL_law_347 : decode cL_law 347 = .ok (.invokevirtual 32, 3) := by decide +kernel
theorem dL_law_350 : decode cL_law 350 = .ok (.aload_n 2, 1) := by decide +kernel
theorem dL_law_351 : decode cL_law 351 = .ok (.aload_n 0, 1) := by decide +kernel
theorem dL_law_352 : decode cL_law 352 = .ok (.iload_n 3, 1) := by decide +kernel
theorem dL_law_353 : decode cL_law 353 = .ok (.iconst 1, 1) := by decide +kernel
theorem dL_law_354 : decode cL_law 354 = .ok (.iadd, 1) := by decide +kernel
theorem dL_law_355 : decode cL_law 355 = .ok (.iaload, 1) := by decide +kernel
theorem dL_law_356 : decode cL_law 356 = .ok (.aload_n 0, 1) := by decide +kernel
theorem dL_law_357 : decode cL_law 357 = .ok (.iload_n 3, 1) := by decide +kernel
theorem dL_law_358 : decode cL_law 358 = .ok (.iconst 2, 1) := by decide +kernel
theorem dL_law_359 : decode cL_law 359 = .ok (.iadd, 1) := by decide +kernel
theorem dL_law_360 : decode cL_law 360 = .ok (.iaload, 1) := by decide +kernel
theorem dL_law_361 : decode cL_law 361 = .ok (.ifCond .eq 7, 3) := by decide +kernel
theorem dL_law_364 : decode cL_law 364 = .ok (.iconst 1, 1) := by decide +kernel
theorem dL_law_365 : decode cL_law 365 = .ok (.goto 4, 3) := by decide +kernel
theorem dL_law_368 : decode cL_law 368 = .ok (.iconst 0, 1) := by decide +kernel
theorem dL_law_369 : decode cL_law 369 = .ok (.invokevirtual 36, 3) := by decide +kernel
theorem dL_law_372 : decode cL_law 372 = .ok (.if_icmp .eq 853, 3) := by decide +kernel
theorem dL_law_375 : decode cL_law 375 = .ok (.iconst 0, 1) := by decide +kernel
theorem dL_law_376 : decode cL_law 376 = .ok (.ireturn, 1) := by decide +kernel
theorem dL_law_377 : decode cL_law 377 = .ok (.aload_n 1, 1) := by decide +kernel
theorem dL_law_378 : decode cL_law 378 = .ok (.aload_n 0, 1) := by decide +kernel
theorem dL_law_379 : decode cL_law 379 = .ok (.iload_n 3, 1) := by decide +kernel
theorem dL_law_380 : decode cL_law 380 = .ok (.iconst 1, 1) := by decide +kernel
theorem dL_law_381 : decode cL_law 381 = .ok (.iadd, 1) := by decide +kernel
theorem dL_law_382 : decode cL_law 382 = .ok (.iaload, 1) := by decide +kernel
theorem dL_law_383 : decode cL_law 383 = .ok (.aload_n 0, 1) := by decide +kernel
theorem dL_law_384 : decode cL_law 384 = .ok (.iload_n 3, 1) := by decide +kernel
theorem dL_law_385 : decode cL_law 385 = .ok (.iconst 2, 1) := by decide +kernel
theorem dL_law_386 : decode cL_law 386 = .ok (.iadd, 1) := by decide +kernel
theorem dL_law_387 : decode cL_law 387 = .ok (.iaload, 1) := by decide +kernel
theorem dL_law_388 : decode cL_law 388 = .ok (.invokevirtual 37, 3) := by decide +kernel
theorem dL_law_391 : decode cL_law 391 = .ok (.aload_n 2, 1) := by decide +kernel
theorem dL_law_392 : decode cL_law 392 = .ok (.aload_n 0, 1) := by decide +kernel
theorem dL_law_393 : decode cL_law 393 = .ok (.iload_n 3, 1) := by decide +kernel
theorem dL_law_394 : decode cL_law 394 = .ok (.iconst 1, 1) := by decide +kernel
theorem dL_law_395 : decode cL_law 395 = .ok (.iadd, 1) := by decide +kernel
theorem dL_law_396 : decode cL_law 396 = .ok (.iaload, 1) := by decide +kernel
theorem dL_law_397 : decode cL_law 397 = .ok (.aload_n 0, 1) := by decide +kernel
theorem dL_law_398 : decode cL_law 398 = .ok (.iload_n 3, 1) := by decide +kernel
theorem dL_law_399 : decode cL_law 399 = .ok (.iconst 2, 1) := by decide +kernel
theorem dL_law_400 : decode cL_law 400 = .ok (.iadd, 1) := by decide +kernel
theorem dL_law_401 : decode cL_law 401 = .ok (.iaload, 1) := by decide +kernel
theorem dL_law_402 : decode cL_law 402 = .ok (.invokevirtual 40, 3) := by decide +kernel
theorem dL_law_405 : decode cL_law 405 = .ok (.if_icmp .eq 820, 3) := by decide +kernel
theorem dL_law_408 : decode cL_law 408 = .ok (.iconst 0, 1) := by decide +kernel
theorem dL_law_409 : decode cL_law 409 = .ok (.ireturn, 1) := by decide +kernel
theorem dL_law_410 : decode cL_law 410 = .ok (.aload_n 1, 1) := by decide +kernel
theorem dL_law_411 : decode cL_law 411 = .ok (.aload_n 0, 1) := by decide +kernel
theorem dL_law_412 : decode cL_law 412 = .ok (.iload_n 3, 1) := by decide +kernel
theorem dL_law_413 : decode cL_law 413 = .ok (.iconst 1, 1) := by decide +kernel
theorem dL_law_414 : decode cL_law 414 = .ok (.iadd, 1) := by decide +kernel
theorem dL_law_415 : decode cL_law 415 = .ok (.iaload, 1) := by decide +kernel
theorem dL_law_416 : decode cL_law 416 = .ok (.aload_n 0, 1) := by decide +kernel
theorem dL_law_417 : decode cL_law 417 = .ok (.iload_n 3, 1) := by decide +kernel
theorem dL_law_418 : decode cL_law 418 = .ok (.iconst 2, 1) := by decide +kernel
theorem dL_law_419 : decode cL_law 419 = .ok (.iadd, 1) := by decide +kernel
theorem dL_law_420 : decode cL_law 420 = .ok (.iaload, 1) := by decide +kernel
theorem dL_law_421 : decode cL_law 421 = .ok (.aload_n 0, 1) := by decide +kernel
theorem dL_law_422 : decode cL_law 422 = .ok (.iload_n 3, 1) := by decide +kernel
theorem dL_law_423 : decode cL_law 423 = .ok (.iconst 3, 1) := by decide +kernel
theorem dL_law_424 : decode cL_law 424 = .ok (.iadd, 1) := by decide +kernel
theorem dL_law_425 : decode cL_law 425 = .ok (.iaload, 1) := by decide +kernel
theorem dL_law_426 : decode cL_law 426 = .ok (.invokevirtual 41, 3) := by decide +kernel
theorem dL_law_429 : decode cL_law 429 = .ok (.aload_n 2, 1) := by decide +kernel
theorem dL_law_430 : decode cL_law 430 = .ok (.aload_n 0, 1) := by decide +kernel
theorem dL_law_431 : decode cL_law 431 = .ok (.iload_n 3, 1) := by decide +kernel
theorem dL_law_432 : decode cL_law 432 = .ok (.iconst 1, 1) := by decide +kernel
theorem dL_law_433 : decode cL_law 433 = .ok (.iadd, 1) := by decide +kernel
theorem dL_law_434 : decode cL_law 434 = .ok (.iaload, 1) := by decide +kernel
theorem dL_law_435 : decode cL_law 435 = .ok (.aload_n 0, 1) := by decide +kernel
theorem dL_law_436 : decode cL_law 436 = .ok (.iload_n 3, 1) := by decide +kernel
theorem dL_law_437 : decode cL_law 437 = .ok (.iconst 2, 1) := by decide +kernel
theorem dL_law_438 : decode cL_law 438 = .ok (.iadd, 1) := by decide +kernel
theorem dL_law_439 : decode cL_law 439 = .ok (.iaload, 1) := by decide +kernel
theorem dL_law_440 : decode cL_law 440 = .ok (.aload_n 0, 1) := by decide +kernel
theorem dL_law_441 : decode cL_law 441 = .ok (.iload_n 3, 1) := by decide +kernel
theorem dL_law_442 : decode cL_law 442 = .ok (.iconst 3, 1) := by decide +kernel
theorem dL_law_443 : decode cL_law 443 = .ok (.iadd, 1) := by decide +kernel
theorem dL_law_444 : decode cL_law 444 = .ok (.iaload, 1) := by decide +kernel
theorem dL_law_445 : decode cL_law 445 = .ok (.invokevirtual 44, 3) := by decide +kernel
theorem dL_law_448 : decode cL_law 448 = .ok (.if_icmp .eq 777, 3) := by decide +kernel
theorem dL_law_451 : decode cL_law 451 = .ok (.iconst 0, 1) := by decide +kernel
theorem dL_law_452 : decode cL_law 452 = .ok (.ireturn, 1) := by decide +kernel
theorem dL_law_453 : decode cL_law 453 = .ok (.aload_n 1, 1) := by decide +kernel
theorem dL_law_454 : decode cL_law 454 = .ok (.aload_n 0, 1) := by decide +kernel
theorem dL_law_455 : decode cL_law 455 = .ok (.iload_n 3, 1) := by decide +kernel
theorem dL_law_456 : decode cL_law 456 = .ok (.iconst 1, 1) := by decide +kernel
theorem dL_law_457 : decode cL_law 457 = .ok (.iadd, 1) := by decide +kernel
theorem dL_law_458 : decode cL_law 458 = .ok (.iaload, 1) := by decide +kernel
theorem dL_law_459 : decode cL_law 459 = .ok (.aload_n 0, 1) := by decide +kernel
theorem dL_law_460 : decode cL_law 460 = .ok (.iload_n 3, 1) := by decide +kernel
theorem dL_law_461 : decode cL_law 461 = .ok (.iconst 2, 1) := by decide +kernel
theorem dL_law_462 : decode cL_law 462 = .ok (.iadd, 1) := by decide +kernel
theorem dL_law_463 : decode cL_law 463 = .ok (.iaload, 1) := by decide +kernel
theorem dL_law_464 : decode cL_law 464 = .ok (.aload_n 0, 1) := by decide +kernel
theorem dL_law_465 : decode cL_law 465 = .ok (.iload_n 3, 1) := by decide +kernel
theorem dL_law_466 : decode cL_law 466 = .ok (.iconst 3, 1) := by decide +kernel
theorem dL_law_467 : decode cL_law 467 = .ok (.iadd, 1) := by decide +kernel
theorem dL_law_468 : decode cL_law 468 = .ok (.iaload, 1) := by decide +kernel
theorem dL_law_469 : decode cL_law 469 = .ok (.invokevirtual 45, 3) := by decide +kernel
theorem dL_law_472 : decode cL_law 472 = .ok (.aload_n 2, 1) := by decide +kernel
theorem dL_law_473 : decode cL_law 473 = .ok (.aload_n 0, 1) := by decide +kernel
theorem dL_law_474 : decode cL_law 474 = .ok (.iload_n 3, 1) := by decide +kernel
theorem dL_law_475 : decode cL_law 475 = .ok (.iconst 1, 1) := by decide +kernel
theorem dL_law_476 : decode cL_law 476 = .ok (.iadd, 1) := by decide +kernel
theorem dL_law_477 : decode cL_law 477 = .ok (.iaload, 1) := by decide +kernel
theorem dL_law_478 : decode cL_law 478 = .ok (.aload_n 0, 1) := by decide +kernel
theorem dL_law_479 : decode cL_law 479 = .ok (.iload_n 3, 1) := by decide +kernel
theorem dL_law_480 : decode cL_law 480 = .ok (.iconst 2, 1) := by decide +kernel
theorem dL_law_481 : decode cL_law 481 = .ok (.iadd, 1) := by decide +kernel
theorem dL_law_482 : decode cL_law 482 = .ok (.iaload, 1) := by decide +kernel
theorem dL_law_483 : decode cL_law 483 = .ok (.aload_n 0, 1) := by decide +kernel
theorem dL_law_484 : decode cL_law 484 = .ok (.iload_n 3, 1) := by decide +kernel
theorem dL_law_485 : decode cL_law 485 = .ok (.iconst 3, 1) := by decide +kernel
theorem dL_law_486 : decode cL_law 486 = .ok (.iadd, 1) := by decide +kernel
theorem dL_law_487 : decode cL_law 487 = .ok (.iaload, 1) := by decide +kernel
theorem dL_law_488 : decode cL_law 488 = .ok (.invokevirtual 48, 3) := by decide +kernel
theorem dL_law_491 : decode cL_law 491 = .ok (.if_icmp .eq 734, 3) := by decide +kernel
theorem dL_law_494 : decode cL_law 494 = .ok (.iconst 0, 1) := by decide +kernel
theorem dL_law_495 : decode cL_law 495 = .ok (.ireturn, 1) := by decide +kernel
theorem dL_law_496 : decode cL_law 496 = .ok (.aload_n 1, 1) := by decide +kernel
theorem dL_law_497 : decode cL_law 497 = .ok (.aload_n 0, 1) := by decide +kernel
theorem dL_law_498 : decode cL_law 498 = .ok (.iload_n 3, 1) := by decide +kernel
theorem dL_law_499 : decode cL_law 499 = .ok (.iconst 1, 1) := by decide +kernel
theorem dL_law_500 : decode cL_law 500 = .ok (.iadd, 1) := by decide +kernel
theorem dL_law_501 : decode cL_law 501 = .ok (.iaload, 1) := by decide +kernel
theorem dL_law_502 : decode cL_law 502 = .ok (.aload_n 0, 1) := by decide +kernel
theorem dL_law_503 : decode cL_law 503 = .ok (.iload_n 3, 1) := by decide +kernel
theorem dL_law_504 : decode cL_law 504 = .ok (.iconst 2, 1) := by decide +kernel
theorem dL_law_505 : decode cL_law 505 = .ok (.iadd, 1) := by decide +kernel
theorem dL_law_506 : decode cL_law 506 = .ok (.iaload, 1) := by decide +kernel
theorem dL_law_507 : decode cL_law 507 = .ok (.invokevirtual 49, 3) := by decide +kernel
theorem dL_law_510 : decode cL_law 510 = .ok (.aload_n 2, 1) := by decide +kernel
theorem dL_law_511 : decode cL_law 511 = .ok (.aload_n 0, 1) := by decide +kernel
theorem dL_law_512 : decode cL_law 512 = .ok (.iload_n 3, 1) := by decide +kernel
theorem dL_law_513 : decode cL_law 513 = .ok (.iconst 1, 1) := by decide +kernel
theorem dL_law_514 : decode cL_law 514 = .ok (.iadd, 1) := by decide +kernel
theorem dL_law_515 : decode cL_law 515 = .ok (.iaload, 1) := by decide +kernel
theorem dL_law_516 : decode cL_law 516 = .ok (.aload_n 0, 1) := by decide +kernel
theorem dL_law_517 : decode cL_law 517 = .ok (.iload_n 3, 1) := by decide +kernel
theorem dL_law_518 : decode cL_law 518 = .ok (.iconst 2, 1) := by decide +kernel
theorem dL_law_519 : decode cL_law 519 = .ok (.iadd, 1) := by decide +kernel
theorem dL_law_520 : decode cL_law 520 = .ok (.iaload, 1) := by decide +kernel
theorem dL_law_521 : decode cL_law 521 = .ok (.invokevirtual 52, 3) := by decide +kernel
theorem dL_law_524 : decode cL_law 524 = .ok (.if_icmp .eq 701, 3) := by decide +kernel
theorem dL_law_527 : decode cL_law 527 = .ok (.iconst 0, 1) := by decide +kernel
theorem dL_law_528 : decode cL_law 528 = .ok (.ireturn, 1) := by decide +kernel
theorem dL_law_529 : decode cL_law 529 = .ok (.aload_n 1, 1) := by decide +kernel
theorem dL_law_530 : decode cL_law 530 = .ok (.aload_n 0, 1) := by decide +kernel
theorem dL_law_531 : decode cL_law 531 = .ok (.iload_n 3, 1) := by decide +kernel
theorem dL_law_532 : decode cL_law 532 = .ok (.iconst 1, 1) := by decide +kernel
theorem dL_law_533 : decode cL_law 533 = .ok (.iadd, 1) := by decide +kernel
theorem dL_law_534 : decode cL_law 534 = .ok (.iaload, 1) := by decide +kernel
theorem dL_law_535 : decode cL_law 535 = .ok (.i2l, 1) := by decide +kernel
theorem dL_law_536 : decode cL_law 536 = .ok (.bipush 32, 2) := by decide +kernel
theorem dL_law_538 : decode cL_law 538 = .ok (.lshl, 1) := by decide +kernel
theorem dL_law_539 : decode cL_law 539 = .ok (.aload_n 0, 1) := by decide +kernel
theorem dL_law_540 : decode cL_law 540 = .ok (.iload_n 3, 1) := by decide +kernel
theorem dL_law_541 : decode cL_law 541 = .ok (.iconst 2, 1) := by decide +kernel
theorem dL_law_542 : decode cL_law 542 = .ok (.iadd, 1) := by decide +kernel
theorem dL_law_543 : decode cL_law 543 = .ok (.iaload, 1) := by decide +kernel
theorem dL_law_544 : decode cL_law 544 = .ok (.i2l, 1) := by decide +kernel
theorem dL_law_545 : decode cL_law 545 = .ok (.ldc2_w 53, 3) := by decide +kernel
theorem dL_law_548 : decode cL_law 548 = .ok (.land, 1) := by decide +kernel
theorem dL_law_549 : decode cL_law 549 = .ok (.lor, 1) := by decide +kernel
theorem dL_law_550 : decode cL_law 550 = .ok (.aload_n 0, 1) := by decide +kernel
theorem dL_law_551 : decode cL_law 551 = .ok (.iload_n 3, 1) := by decide +kernel
theorem dL_law_552 : decode cL_law 552 = .ok (.iconst 3, 1) := by decide +kernel
theorem dL_law_553 : decode cL_law 553 = .ok (.iadd, 1) := by decide +kernel
theorem dL_law_554 : decode cL_law 554 = .ok (.iaload, 1) := by decide +kernel
theorem dL_law_555 : decode cL_law 555 = .ok (.invokevirtual 55, 3) := by decide +kernel
theorem dL_law_558 : decode cL_law 558 = .ok (.aload_n 2, 1) := by decide +kernel
theorem dL_law_559 : decode cL_law 559 = .ok (.aload_n 0, 1) := by decide +kernel
theorem dL_law_560 : decode cL_law 560 = .ok (.iload_n 3, 1) := by decide +kernel
theorem dL_law_561 : decode cL_law 561 = .ok (.iconst 1, 1) := by decide +kernel
theorem dL_law_562 : decode cL_law 562 = .ok (.iadd, 1) := by decide +kernel
theorem dL_law_563 : decode cL_law 563 = .ok (.iaload, 1) := by decide +kernel
theorem dL_law_564 : decode cL_law 564 = .ok (.i2l, 1) := by decide +kernel
theorem dL_law_565 : decode cL_law 565 = .ok (.bipush 32, 2) := by decide +kernel
theorem dL_law_567 : decode cL_law 567 = .ok (.lshl, 1) := by decide +kernel
theorem dL_law_568 : decode cL_law 568 = .ok (.aload_n 0, 1) := by decide +kernel
theorem dL_law_569 : decode cL_law 569 = .ok (.iload_n 3, 1) := by decide +kernel
theorem dL_law_570 : decode cL_law 570 = .ok (.iconst 2, 1) := by decide +kernel
theorem dL_law_571 : decode cL_law 571 = .ok (.iadd, 1) := by decide +kernel
theorem dL_law_572 : decode cL_law 572 = .ok (.iaload, 1) := by decide +kernel
theorem dL_law_573 : decode cL_law 573 = .ok (.i2l, 1) := by decide +kernel
theorem dL_law_574 : decode cL_law 574 = .ok (.ldc2_w 53, 3) := by decide +kernel
theorem dL_law_577 : decode cL_law 577 = .ok (.land, 1) := by decide +kernel
theorem dL_law_578 : decode cL_law 578 = .ok (.lor, 1) := by decide +kernel
theorem dL_law_579 : decode cL_law 579 = .ok (.aload_n 0, 1) := by decide +kernel
theorem dL_law_580 : decode cL_law 580 = .ok (.iload_n 3, 1) := by decide +kernel
theorem dL_law_581 : decode cL_law 581 = .ok (.iconst 3, 1) := by decide +kernel
theorem dL_law_582 : decode cL_law 582 = .ok (.iadd, 1) := by decide +kernel
theorem dL_law_583 : decode cL_law 583 = .ok (.iaload, 1) := by decide +kernel
theorem dL_law_584 : decode cL_law 584 = .ok (.invokevirtual 59, 3) := by decide +kernel
theorem dL_law_587 : decode cL_law 587 = .ok (.if_icmp .eq 638, 3) := by decide +kernel
theorem dL_law_590 : decode cL_law 590 = .ok (.iconst 0, 1) := by decide +kernel
theorem dL_law_591 : decode cL_law 591 = .ok (.ireturn, 1) := by decide +kernel
theorem dL_law_592 : decode cL_law 592 = .ok (.aload_n 1, 1) := by decide +kernel
theorem dL_law_593 : decode cL_law 593 = .ok (.invokevirtual 60, 3) := by decide +kernel
theorem dL_law_596 : decode cL_law 596 = .ok (.aload_n 2, 1) := by decide +kernel
theorem dL_law_597 : decode cL_law 597 = .ok (.invokevirtual 64, 3) := by decide +kernel
theorem dL_law_600 : decode cL_law 600 = .ok (.if_icmp .eq 625, 3) := by decide +kernel
theorem dL_law_603 : decode cL_law 603 = .ok (.iconst 0, 1) := by decide +kernel
theorem dL_law_604 : decode cL_law 604 = .ok (.ireturn, 1) := by decide +kernel
theorem dL_law_605 : decode cL_law 605 = .ok (.aload_n 1, 1) := by decide +kernel
theorem dL_law_606 : decode cL_law 606 = .ok (.invokevirtual 65, 3) := by decide +kernel
theorem dL_law_609 : decode cL_law 609 = .ok (.aload_n 2, 1) := by decide +kernel
theorem dL_law_610 : decode cL_law 610 = .ok (.invokevirtual 68, 3) := by decide +kernel
theorem dL_law_613 : decode cL_law 613 = .ok (.if_icmp .eq 612, 3) := by decide +kernel
theorem dL_law_616 : decode cL_law 616 = .ok (.iconst 0, 1) := by decide +kernel
theorem dL_law_617 : decode cL_law 617 = .ok (.ireturn, 1) := by decide +kernel
theorem dL_law_618 : decode cL_law 618 = .ok (.aload_n 1, 1) := by decide +kernel
theorem dL_law_619 : decode cL_law 619 = .ok (.aload_n 0, 1) := by decide +kernel
theorem dL_law_620 : decode cL_law 620 = .ok (.iload_n 3, 1) := by decide +kernel
theorem dL_law_621 : decode cL_law 621 = .ok (.iconst 1, 1) := by decide +kernel
theorem dL_law_622 : decode cL_law 622 = .ok (.iadd, 1) := by decide +kernel
theorem dL_law_623 : decode cL_law 623 = .ok (.iaload, 1) := by decide +kernel
theorem dL_law_624 : decode cL_law 624 = .ok (.invokevirtual 69, 3) := by decide +kernel
theorem dL_law_627 : decode cL_law 627 = .ok (.aload_n 2, 1) := by decide +kernel
theorem dL_law_628 : decode cL_law 628 = .ok (.aload_n 0, 1) := by decide +kernel
theorem dL_law_629 : decode cL_law 629 = .ok (.iload_n 3, 1) := by decide +kernel
theorem dL_law_630 : decode cL_law 630 = .ok (.iconst 1, 1) := by decide +kernel
theorem dL_law_631 : decode cL_law 631 = .ok (.iadd, 1) := by decide +kernel
theorem dL_law_632 : decode cL_law 632 = .ok (.iaload, 1) := by decide +kernel
theorem dL_law_633 : decode cL_law 633 = .ok (.invokevirtual 73, 3) := by decide +kernel
theorem dL_law_636 : decode cL_law 636 = .ok (.if_icmp .eq 589, 3) := by decide +kernel
theorem dL_law_639 : decode cL_law 639 = .ok (.iconst 0, 1) := by decide +kernel
theorem dL_law_640 : decode cL_law 640 = .ok (.ireturn, 1) := by decide +kernel
theorem dL_law_641 : decode cL_law 641 = .ok (.aload_n 1, 1) := by decide +kernel
theorem dL_law_642 : decode cL_law 642 = .ok (.aload_n 0, 1) := by decide +kernel
theorem dL_law_643 : decode cL_law 643 = .ok (.iload_n 3, 1) := by decide +kernel
theorem dL_law_644 : decode cL_law 644 = .ok (.iconst 1, 1) := by decide +kernel
theorem dL_law_645 : decode cL_law 645 = .ok (.iadd, 1) := by decide +kernel
theorem dL_law_646 : decode cL_law 646 = .ok (.iaload, 1) := by decide +kernel
theorem dL_law_647 : decode cL_law 647 = .ok (.aload_n 0, 1) := by decide +kernel
theorem dL_law_648 : decode cL_law 648 = .ok (.iload_n 3, 1) := by decide +kernel
theorem dL_law_649 : decode cL_law 649 = .ok (.iconst 2, 1) := by decide +kernel
theorem dL_law_650 : decode cL_law 650 = .ok (.iadd, 1) := by decide +kernel
theorem dL_law_651 : decode cL_law 651 = .ok (.iaload, 1) := by decide +kernel
theorem dL_law_652 : decode cL_law 652 = .ok (.invokevirtual 74, 3) := by decide +kernel
theorem dL_law_655 : decode cL_law 655 = .ok (.aload_n 2, 1) := by decide +kernel
theorem dL_law_656 : decode cL_law 656 = .ok (.aload_n 0, 1) := by decide +kernel
theorem dL_law_657 : decode cL_law 657 = .ok (.iload_n 3, 1) := by decide +kernel
theorem dL_law_658 : decode cL_law 658 = .ok (.iconst 1, 1) := by decide +kernel
theorem dL_law_659 : decode cL_law 659 = .ok (.iadd, 1) := by decide +kernel
theorem dL_law_660 : decode cL_law 660 = .ok (.iaload, 1) := by decide +kernel
theorem dL_law_661 : decode cL_law 661 = .ok (.aload_n 0, 1) := by decide +kernel
theorem dL_law_662 : decode cL_law 662 = .ok (.iload_n 3, 1) := by decide +kernel
theorem dL_law_663 : decode cL_law 663 = .ok (.iconst 2, 1) := by decide +kernel
theorem dL_law_664 : decode cL_law 664 = .ok (.iadd, 1) := by decide +kernel
theorem dL_law_665 : decode cL_law 665 = .ok (.iaload, 1) := by decide +kernel
theorem dL_law_666 : decode cL_law 666 = .ok (.invokevirtual 77, 3) := by decide +kernel
theorem dL_law_669 : decode cL_law 669 = .ok (.if_icmp .eq 556, 3) := by decide +kernel
theorem dL_law_672 : decode cL_law 672 = .ok (.iconst 0, 1) := by decide +kernel
theorem dL_law_673 : decode cL_law 673 = .ok (.ireturn, 1) := by decide +kernel
theorem dL_law_674 : decode cL_law 674 = .ok (.aload_n 1, 1) := by decide +kernel
theorem dL_law_675 : decode cL_law 675 = .ok (.aload_n 0, 1) := by decide +kernel
theorem dL_law_676 : decode cL_law 676 = .ok (.iload_n 3, 1) := by decide +kernel
theorem dL_law_677 : decode cL_law 677 = .ok (.iconst 1, 1) := by decide +kernel
theorem dL_law_678 : decode cL_law 678 = .ok (.iadd, 1) := by decide +kernel
theorem dL_law_679 : decode cL_law 679 = .ok (.iaload, 1) := by decide +kernel
theorem dL_law_680 : decode cL_law 680 = .ok (.invokevirtual 78, 3) := by decide +kernel
theorem dL_law_683 : decode cL_law 683 = .ok (.aload_n 2, 1) := by decide +kernel
theorem dL_law_684 : decode cL_law 684 = .ok (.aload_n 0, 1) := by decide +kernel
theorem dL_law_685 : decode cL_law 685 = .ok (.iload_n 3, 1) := by decide +kernel
theorem dL_law_686 : decode cL_law 686 = .ok (.iconst 1, 1) := by decide +kernel
theorem dL_law_687 : decode cL_law 687 = .ok (.iadd, 1) := by decide +kernel
theorem dL_law_688 : decode cL_law 688 = .ok (.iaload, 1) := by decide +kernel
theorem dL_law_689 : decode cL_law 689 = .ok (.invokevirtual 81, 3) := by decide +kernel
theorem dL_law_692 : decode cL_law 692 = .ok (.if_icmp .eq 533, 3) := by decide +kernel
theorem dL_law_695 : decode cL_law 695 = .ok (.iconst 0, 1) := by decide +kernel
theorem dL_law_696 : decode cL_law 696 = .ok (.ireturn, 1) := by decide +kernel
theorem dL_law_697 : decode cL_law 697 = .ok (.aload_n 1, 1) := by decide +kernel
theorem dL_law_698 : decode cL_law 698 = .ok (.aload_n 0, 1) := by decide +kernel
theorem dL_law_699 : decode cL_law 699 = .ok (.iload_n 3, 1) := by decide +kernel
theorem dL_law_700 : decode cL_law 700 = .ok (.iconst 1, 1) := by decide +kernel
theorem dL_law_701 : decode cL_law 701 = .ok (.iadd, 1) := by decide +kernel
theorem dL_law_702 : decode cL_law 702 = .ok (.iaload, 1) := by decide +kernel
theorem dL_law_703 : decode cL_law 703 = .ok (.invokevirtual 82, 3) := by decide +kernel
theorem dL_law_706 : decode cL_law 706 = .ok (.aload_n 2, 1) := by decide +kernel
theorem dL_law_707 : decode cL_law 707 = .ok (.aload_n 0, 1) := by decide +kernel
theorem dL_law_708 : decode cL_law 708 = .ok (.iload_n 3, 1) := by decide +kernel
theorem dL_law_709 : decode cL_law 709 = .ok (.iconst 1, 1) := by decide +kernel
theorem dL_law_710 : decode cL_law 710 = .ok (.iadd, 1) := by decide +kernel
theorem dL_law_711 : decode cL_law 711 = .ok (.iaload, 1) := by decide +kernel
theorem dL_law_712 : decode cL_law 712 = .ok (.invokevirtual 85, 3) := by decide +kernel
theorem dL_law_715 : decode cL_law 715 = .ok (.if_icmp .eq 510, 3) := by decide +kernel
theorem dL_law_718 : decode cL_law 718 = .ok (.iconst 0, 1) := by decide +kernel
theorem dL_law_719 : decode cL_law 719 = .ok (.ireturn, 1) := by decide +kernel
theorem dL_law_720 : decode cL_law 720 = .ok (.aload_n 1, 1) := by decide +kernel
theorem dL_law_721 : decode cL_law 721 = .ok (.aload_n 0, 1) := by decide +kernel
theorem dL_law_722 : decode cL_law 722 = .ok (.iload_n 3, 1) := by decide +kernel
theorem dL_law_723 : decode cL_law 723 = .ok (.iconst 1, 1) := by decide +kernel
theorem dL_law_724 : decode cL_law 724 = .ok (.iadd, 1) := by decide +kernel
theorem dL_law_725 : decode cL_law 725 = .ok (.iaload, 1) := by decide +kernel
theorem dL_law_726 : decode cL_law 726 = .ok (.aload_n 0, 1) := by decide +kernel
theorem dL_law_727 : decode cL_law 727 = .ok (.iload_n 3, 1) := by decide +kernel
theorem dL_law_728 : decode cL_law 728 = .ok (.iconst 2, 1) := by decide +kernel
theorem dL_law_729 : decode cL_law 729 = .ok (.iadd, 1) := by decide +kernel
theorem dL_law_730 : decode cL_law 730 = .ok (.iaload, 1) := by decide +kernel
theorem dL_law_731 : decode cL_law 731 = .ok (.aload_n 0, 1) := by decide +kernel
theorem dL_law_732 : decode cL_law 732 = .ok (.iload_n 3, 1) := by decide +kernel
theorem dL_law_733 : decode cL_law 733 = .ok (.iconst 3, 1) := by decide +kernel
theorem dL_law_734 : decode cL_law 734 = .ok (.iadd, 1) := by decide +kernel
theorem dL_law_735 : decode cL_law 735 = .ok (.iaload, 1) := by decide +kernel
theorem dL_law_736 : decode cL_law 736 = .ok (.invokevirtual 86, 3) := by decide +kernel
theorem dL_law_739 : decode cL_law 739 = .ok (.aload_n 2, 1) := by decide +kernel
theorem dL_law_740 : decode cL_law 740 = .ok (.aload_n 0, 1) := by decide +kernel
theorem dL_law_741 : decode cL_law 741 = .ok (.iload_n 3, 1) := by decide +kernel
theorem dL_law_742 : decode cL_law 742 = .ok (.iconst 1, 1) := by decide +kernel
theorem dL_law_743 : decode cL_law 743 = .ok (.iadd, 1) := by decide +kernel
theorem dL_law_744 : decode cL_law 744 = .ok (.iaload, 1) := by decide +kernel
theorem dL_law_745 : decode cL_law 745 = .ok (.aload_n 0, 1) := by decide +kernel
theorem dL_law_746 : decode cL_law 746 = .ok (.iload_n 3, 1) := by decide +kernel
theorem dL_law_747 : decode cL_law 747 = .ok (.iconst 2, 1) := by decide +kernel
theorem dL_law_748 : decode cL_law 748 = .ok (.iadd, 1) := by decide +kernel
theorem dL_law_749 : decode cL_law 749 = .ok (.iaload, 1) := by decide +kernel
theorem dL_law_750 : decode cL_law 750 = .ok (.aload_n 0, 1) := by decide +kernel
theorem dL_law_751 : decode cL_law 751 = .ok (.iload_n 3, 1) := by decide +kernel
theorem dL_law_752 : decode cL_law 752 = .ok (.iconst 3, 1) := by decide +kernel
theorem dL_law_753 : decode cL_law 753 = .ok (.iadd, 1) := by decide +kernel
theorem dL_law_754 : decode cL_law 754 = .ok (.iaload, 1) := by decide +kernel
theorem dL_law_755 : decode cL_law 755 = .ok (.invokevirtual 89, 3) := by decide +kernel
theorem dL_law_758 : decode cL_law 758 = .ok (.if_icmp .eq 467, 3) := by decide +kernel
theorem dL_law_761 : decode cL_law 761 = .ok (.iconst 0, 1) := by decide +kernel
theorem dL_law_762 : decode cL_law 762 = .ok (.ireturn, 1) := by decide +kernel
theorem dL_law_763 : decode cL_law 763 = .ok (.aload_n 1, 1) := by decide +kernel
theorem dL_law_764 : decode cL_law 764 = .ok (.aload_n 0, 1) := by decide +kernel
theorem dL_law_765 : decode cL_law 765 = .ok (.iload_n 3, 1) := by decide +kernel
theorem dL_law_766 : decode cL_law 766 = .ok (.iconst 1, 1) := by decide +kernel
theorem dL_law_767 : decode cL_law 767 = .ok (.iadd, 1) := by decide +kernel
theorem dL_law_768 : decode cL_law 768 = .ok (.iaload, 1) := by decide +kernel
theorem dL_law_769 : decode cL_law 769 = .ok (.aload_n 0, 1) := by decide +kernel
theorem dL_law_770 : decode cL_law 770 = .ok (.iload_n 3, 1) := by decide +kernel
theorem dL_law_771 : decode cL_law 771 = .ok (.iconst 2, 1) := by decide +kernel
theorem dL_law_772 : decode cL_law 772 = .ok (.iadd, 1) := by decide +kernel
theorem dL_law_773 : decode cL_law 773 = .ok (.iaload, 1) := by decide +kernel
theorem dL_law_774 : decode cL_law 774 = .ok (.aload_n 0, 1) := by decide +kernel
theorem dL_law_775 : decode cL_law 775 = .ok (.iload_n 3, 1) := by decide +kernel
theorem dL_law_776 : decode cL_law 776 = .ok (.iconst 3, 1) := by decide +kernel
theorem dL_law_777 : decode cL_law 777 = .ok (.iadd, 1) := by decide +kernel
theorem dL_law_778 : decode cL_law 778 = .ok (.iaload, 1) := by decide +kernel
theorem dL_law_779 : decode cL_law 779 = .ok (.aload_n 0, 1) := by decide +kernel
theorem dL_law_780 : decode cL_law 780 = .ok (.iload_n 3, 1) := by decide +kernel
theorem dL_law_781 : decode cL_law 781 = .ok (.iconst 4, 1) := by decide +kernel
theorem dL_law_782 : decode cL_law 782 = .ok (.iadd, 1) := by decide +kernel
theorem dL_law_783 : decode cL_law 783 = .ok (.iaload, 1) := by decide +kernel
theorem dL_law_784 : decode cL_law 784 = .ok (.invokevirtual 90, 3) := by decide +kernel
theorem dL_law_787 : decode cL_law 787 = .ok (.aload_n 2, 1) := by decide +kernel
theorem dL_law_788 : decode cL_law 788 = .ok (.aload_n 0, 1) := by decide +kernel
theorem dL_law_789 : decode cL_law 789 = .ok (.iload_n 3, 1) := by decide +kernel
theorem dL_law_790 : decode cL_law 790 = .ok (.iconst 1, 1) := by decide +kernel
theorem dL_law_791 : decode cL_law 791 = .ok (.iadd, 1) := by decide +kernel
theorem dL_law_792 : decode cL_law 792 = .ok (.iaload, 1) := by decide +kernel
theorem dL_law_793 : decode cL_law 793 = .ok (.aload_n 0, 1) := by decide +kernel
theorem dL_law_794 : decode cL_law 794 = .ok (.iload_n 3, 1) := by decide +kernel
theorem dL_law_795 : decode cL_law 795 = .ok (.iconst 2, 1) := by decide +kernel
theorem dL_law_796 : decode cL_law 796 = .ok (.iadd, 1) := by decide +kernel
theorem dL_law_797 : decode cL_law 797 = .ok (.iaload, 1) := by decide +kernel
theorem dL_law_798 : decode cL_law 798 = .ok (.aload_n 0, 1) := by decide +kernel
theorem dL_law_799 : decode cL_law 799 = .ok (.iload_n 3, 1) := by decide +kernel
theorem dL_law_800 : decode cL_law 800 = .ok (.iconst 3, 1) := by decide +kernel
theorem dL_law_801 : decode cL_law 801 = .ok (.iadd, 1) := by decide +kernel
theorem dL_law_802 : decode cL_law 802 = .ok (.iaload, 1) := by decide +kernel
theorem dL_law_803 : decode cL_law 803 = .ok (.aload_n 0, 1) := by decide +kernel
theorem dL_law_804 : decode cL_law 804 = .ok (.iload_n 3, 1) := by decide +kernel
theorem dL_law_805 : decode cL_law 805 = .ok (.iconst 4, 1) := by decide +kernel
theorem dL_law_806 : decode cL_law 806 = .ok (.iadd, 1) := by decide +kernel
theorem dL_law_807 : decode cL_law 807 = .ok (.iaload, 1) := by decide +kernel
theorem dL_law_808 : decode cL_law 808 = .ok (.invokevirtual 93, 3) := by decide +kernel
theorem dL_law_811 : decode cL_law 811 = .ok (.if_icmp .eq 414, 3) := by decide +kernel
theorem dL_law_814 : decode cL_law 814 = .ok (.iconst 0, 1) := by decide +kernel
theorem dL_law_815 : decode cL_law 815 = .ok (.ireturn, 1) := by decide +kernel
theorem dL_law_816 : decode cL_law 816 = .ok (.aload_n 1, 1) := by decide +kernel
theorem dL_law_817 : decode cL_law 817 = .ok (.invokevirtual 94, 3) := by decide +kernel
theorem dL_law_820 : decode cL_law 820 = .ok (.aload_n 2, 1) := by decide +kernel
theorem dL_law_821 : decode cL_law 821 = .ok (.invokevirtual 97, 3) := by decide +kernel
theorem dL_law_824 : decode cL_law 824 = .ok (.if_icmp .eq 401, 3) := by decide +kernel
theorem dL_law_827 : decode cL_law 827 = .ok (.iconst 0, 1) := by decide +kernel
theorem dL_law_828 : decode cL_law 828 = .ok (.ireturn, 1) := by decide +kernel
theorem dL_law_829 : decode cL_law 829 = .ok (.aload_n 1, 1) := by decide +kernel
theorem dL_law_830 : decode cL_law 830 = .ok (.invokevirtual 98, 3) := by decide +kernel
theorem dL_law_833 : decode cL_law 833 = .ok (.aload_n 2, 1) := by decide +kernel
theorem dL_law_834 : decode cL_law 834 = .ok (.invokevirtual 101, 3) := by decide +kernel
theorem dL_law_837 : decode cL_law 837 = .ok (.if_icmp .eq 388, 3) := by decide +kernel
theorem dL_law_840 : decode cL_law 840 = .ok (.iconst 0, 1) := by decide +kernel
theorem dL_law_841 : decode cL_law 841 = .ok (.ireturn, 1) := by decide +kernel
theorem dL_law_842 : decode cL_law 842 = .ok (.aload_n 1, 1) := by decide +kernel
theorem dL_law_843 : decode cL_law 843 = .ok (.aload_n 0, 1) := by decide +kernel
theorem dL_law_844 : decode cL_law 844 = .ok (.iload_n 3, 1) := by decide +kernel
theorem dL_law_845 : decode cL_law 845 = .ok (.iconst 1, 1) := by decide +kernel
theorem dL_law_846 : decode cL_law 846 = .ok (.iadd, 1) := by decide +kernel
theorem dL_law_847 : decode cL_law 847 = .ok (.iaload, 1) := by decide +kernel
theorem dL_law_848 : decode cL_law 848 = .ok (.aload_n 0, 1) := by decide +kernel
theorem dL_law_849 : decode cL_law 849 = .ok (.iload_n 3, 1) := by decide +kernel
theorem dL_law_850 : decode cL_law 850 = .ok (.iconst 2, 1) := by decide +kernel
theorem dL_law_851 : decode cL_law 851 = .ok (.iadd, 1) := by decide +kernel
theorem dL_law_852 : decode cL_law 852 = .ok (.iaload, 1) := by decide +kernel
theorem dL_law_853 : decode cL_law 853 = .ok (.aload_n 0, 1) := by decide +kernel
theorem dL_law_854 : decode cL_law 854 = .ok (.iload_n 3, 1) := by decide +kernel
theorem dL_law_855 : decode cL_law 855 = .ok (.iconst 3, 1) := by decide +kernel
theorem dL_law_856 : decode cL_law 856 = .ok (.iadd, 1) := by decide +kernel
theorem dL_law_857 : decode cL_law 857 = .ok (.iaload, 1) := by decide +kernel
theorem dL_law_858 : decode cL_law 858 = .ok (.aload_n 0, 1) := by decide +kernel
theorem dL_law_859 : decode cL_law 859 = .ok (.iload_n 3, 1) := by decide +kernel
theorem dL_law_860 : decode cL_law 860 = .ok (.iconst 4, 1) := by decide +kernel
theorem dL_law_861 : decode cL_law 861 = .ok (.iadd, 1) := by decide +kernel
theorem dL_law_862 : decode cL_law 862 = .ok (.iaload, 1) := by decide +kernel
theorem dL_law_863 : decode cL_law 863 = .ok (.aload_n 0, 1) := by decide +kernel
theorem dL_law_864 : decode cL_law 864 = .ok (.iload_n 3, 1) := by decide +kernel
theorem dL_law_865 : decode cL_law 865 = .ok (.iconst 5, 1) := by decide +kernel
theorem dL_law_866 : decode cL_law 866 = .ok (.iadd, 1) := by decide +kernel
theorem dL_law_867 : decode cL_law 867 = .ok (.iaload, 1) := by decide +kernel
theorem dL_law_868 : decode cL_law 868 = .ok (.aload_n 0, 1) := by decide +kernel
theorem dL_law_869 : decode cL_law 869 = .ok (.iload_n 3, 1) := by decide +kernel
theorem dL_law_870 : decode cL_law 870 = .ok (.bipush 6, 2) := by decide +kernel
theorem dL_law_872 : decode cL_law 872 = .ok (.iadd, 1) := by decide +kernel
theorem dL_law_873 : decode cL_law 873 = .ok (.iaload, 1) := by decide +kernel
theorem dL_law_874 : decode cL_law 874 = .ok (.invokevirtual 102, 3) := by decide +kernel
theorem dL_law_877 : decode cL_law 877 = .ok (.aload_n 2, 1) := by decide +kernel
theorem dL_law_878 : decode cL_law 878 = .ok (.aload_n 0, 1) := by decide +kernel
theorem dL_law_879 : decode cL_law 879 = .ok (.iload_n 3, 1) := by decide +kernel
theorem dL_law_880 : decode cL_law 880 = .ok (.iconst 1, 1) := by decide +kernel
theorem dL_law_881 : decode cL_law 881 = .ok (.iadd, 1) := by decide +kernel
theorem dL_law_882 : decode cL_law 882 = .ok (.iaload, 1) := by decide +kernel
theorem dL_law_883 : decode cL_law 883 = .ok (.aload_n 0, 1) := by decide +kernel
theorem dL_law_884 : decode cL_law 884 = .ok (.iload_n 3, 1) := by decide +kernel
theorem dL_law_885 : decode cL_law 885 = .ok (.iconst 2, 1) := by decide +kernel
theorem dL_law_886 : decode cL_law 886 = .ok (.iadd, 1) := by decide +kernel
theorem dL_law_887 : decode cL_law 887 = .ok (.iaload, 1) := by decide +kernel
theorem dL_law_888 : decode cL_law 888 = .ok (.aload_n 0, 1) := by decide +kernel
theorem dL_law_889 : decode cL_law 889 = .ok (.iload_n 3, 1) := by decide +kernel
theorem dL_law_890 : decode cL_law 890 = .ok (.iconst 3, 1) := by decide +kernel
theorem dL_law_891 : decode cL_law 891 = .ok (.iadd, 1) := by decide +kernel
theorem dL_law_892 : decode cL_law 892 = .ok (.iaload, 1) := by decide +kernel
theorem dL_law_893 : decode cL_law 893 = .ok (.aload_n 0, 1) := by decide +kernel
theorem dL_law_894 : decode cL_law 894 = .ok (.iload_n 3, 1) := by decide +kernel
theorem dL_law_895 : decode cL_law 895 = .ok (.iconst 4, 1) := by decide +kernel
theorem dL_law_896 : decode cL_law 896 = .ok (.iadd, 1) := by decide +kernel
theorem dL_law_897 : decode cL_law 897 = .ok (.iaload, 1) := by decide +kernel
theorem dL_law_898 : decode cL_law 898 = .ok (.aload_n 0, 1) := by decide +kernel
theorem dL_law_899 : decode cL_law 899 = .ok (.iload_n 3, 1) := by decide +kernel
theorem dL_law_900 : decode cL_law 900 = .ok (.iconst 5, 1) := by decide +kernel
theorem dL_law_901 : decode cL_law 901 = .ok (.iadd, 1) := by decide +kernel
theorem dL_law_902 : decode cL_law 902 = .ok (.iaload, 1) := by decide +kernel
theorem dL_law_903 : decode cL_law 903 = .ok (.aload_n 0, 1) := by decide +kernel
theorem dL_law_904 : decode cL_law 904 = .ok (.iload_n 3, 1) := by decide +kernel
theorem dL_law_905 : decode cL_law 905 = .ok (.bipush 6, 2) := by decide +kernel
theorem dL_law_907 : decode cL_law 907 = .ok (.iadd, 1) := by decide +kernel
theorem dL_law_908 : decode cL_law 908 = .ok (.iaload, 1) := by decide +kernel
theorem dL_law_909 : decode cL_law 909 = .ok (.invokevirtual 106, 3) := by decide +kernel
theorem dL_law_912 : decode cL_law 912 = .ok (.if_icmp .eq 313, 3) := by decide +kernel
theorem dL_law_915 : decode cL_law 915 = .ok (.iconst 0, 1) := by decide +kernel
theorem dL_law_916 : decode cL_law 916 = .ok (.ireturn, 1) := by decide +kernel
theorem dL_law_917 : decode cL_law 917 = .ok (.aload_n 1, 1) := by decide +kernel
theorem dL_law_918 : decode cL_law 918 = .ok (.aload_n 0, 1) := by decide +kernel
theorem dL_law_919 : decode cL_law 919 = .ok (.iload_n 3, 1) := by decide +kernel
theorem dL_law_920 : decode cL_law 920 = .ok (.iconst 1, 1) := by decide +kernel
theorem dL_law_921 : decode cL_law 921 = .ok (.iadd, 1) := by decide +kernel
theorem dL_law_922 : decode cL_law 922 = .ok (.iaload, 1) := by decide +kernel
theorem dL_law_923 : decode cL_law 923 = .ok (.aload_n 0, 1) := by decide +kernel
theorem dL_law_924 : decode cL_law 924 = .ok (.iload_n 3, 1) := by decide +kernel
theorem dL_law_925 : decode cL_law 925 = .ok (.iconst 2, 1) := by decide +kernel
theorem dL_law_926 : decode cL_law 926 = .ok (.iadd, 1) := by decide +kernel
theorem dL_law_927 : decode cL_law 927 = .ok (.iaload, 1) := by decide +kernel
theorem dL_law_928 : decode cL_law 928 = .ok (.aload_n 0, 1) := by decide +kernel
theorem dL_law_929 : decode cL_law 929 = .ok (.iload_n 3, 1) := by decide +kernel
theorem dL_law_930 : decode cL_law 930 = .ok (.iconst 3, 1) := by decide +kernel
theorem dL_law_931 : decode cL_law 931 = .ok (.iadd, 1) := by decide +kernel
theorem dL_law_932 : decode cL_law 932 = .ok (.iaload, 1) := by decide +kernel
theorem dL_law_933 : decode cL_law 933 = .ok (.aload_n 0, 1) := by decide +kernel
theorem dL_law_934 : decode cL_law 934 = .ok (.iload_n 3, 1) := by decide +kernel
theorem dL_law_935 : decode cL_law 935 = .ok (.iconst 4, 1) := by decide +kernel
theorem dL_law_936 : decode cL_law 936 = .ok (.iadd, 1) := by decide +kernel
theorem dL_law_937 : decode cL_law 937 = .ok (.iaload, 1) := by decide +kernel
theorem dL_law_938 : decode cL_law 938 = .ok (.aload_n 0, 1) := by decide +kernel
theorem dL_law_939 : decode cL_law 939 = .ok (.iload_n 3, 1) := by decide +kernel
theorem dL_law_940 : decode cL_law 940 = .ok (.iconst 5, 1) := by decide +kernel
theorem dL_law_941 : decode cL_law 941 = .ok (.iadd, 1) := by decide +kernel
theorem dL_law_942 : decode cL_law 942 = .ok (.iaload, 1) := by decide +kernel
theorem dL_law_943 : decode cL_law 943 = .ok (.invokevirtual 107, 3) := by decide +kernel
theorem dL_law_946 : decode cL_law 946 = .ok (.aload_n 2, 1) := by decide +kernel
theorem dL_law_947 : decode cL_law 947 = .ok (.aload_n 0, 1) := by decide +kernel
theorem dL_law_948 : decode cL_law 948 = .ok (.iload_n 3, 1) := by decide +kernel
theorem dL_law_949 : decode cL_law 949 = .ok (.iconst 1, 1) := by decide +kernel
theorem dL_law_950 : decode cL_law 950 = .ok (.iadd, 1) := by decide +kernel
theorem dL_law_951 : decode cL_law 951 = .ok (.iaload, 1) := by decide +kernel
theorem dL_law_952 : decode cL_law 952 = .ok (.aload_n 0, 1) := by decide +kernel
theorem dL_law_953 : decode cL_law 953 = .ok (.iload_n 3, 1) := by decide +kernel
theorem dL_law_954 : decode cL_law 954 = .ok (.iconst 2, 1) := by decide +kernel
theorem dL_law_955 : decode cL_law 955 = .ok (.iadd, 1) := by decide +kernel
theorem dL_law_956 : decode cL_law 956 = .ok (.iaload, 1) := by decide +kernel
theorem dL_law_957 : decode cL_law 957 = .ok (.aload_n 0, 1) := by decide +kernel
theorem dL_law_958 : decode cL_law 958 = .ok (.iload_n 3, 1) := by decide +kernel
theorem dL_law_959 : decode cL_law 959 = .ok (.iconst 3, 1) := by decide +kernel
theorem dL_law_960 : decode cL_law 960 = .ok (.iadd, 1) := by decide +kernel
theorem dL_law_961 : decode cL_law 961 = .ok (.iaload, 1) := by decide +kernel
theorem dL_law_962 : decode cL_law 962 = .ok (.aload_n 0, 1) := by decide +kernel
theorem dL_law_963 : decode cL_law 963 = .ok (.iload_n 3, 1) := by decide +kernel
theorem dL_law_964 : decode cL_law 964 = .ok (.iconst 4, 1) := by decide +kernel
theorem dL_law_965 : decode cL_law 965 = .ok (.iadd, 1) := by decide +kernel
theorem dL_law_966 : decode cL_law 966 = .ok (.iaload, 1) := by decide +kernel
theorem dL_law_967 : decode cL_law 967 = .ok (.aload_n 0, 1) := by decide +kernel
theorem dL_law_968 : decode cL_law 968 = .ok (.iload_n 3, 1) := by decide +kernel
theorem dL_law_969 : decode cL_law 969 = .ok (.iconst 5, 1) := by decide +kernel
theorem dL_law_970 : decode cL_law 970 = .ok (.iadd, 1) := by decide +kernel
theorem dL_law_971 : decode cL_law 971 = .ok (.iaload, 1) := by decide +kernel
theorem dL_law_972 : decode cL_law 972 = .ok (.invokevirtual 111, 3) := by decide +kernel
theorem dL_law_975 : decode cL_law 975 = .ok (.if_icmp .eq 250, 3) := by decide +kernel
theorem dL_law_978 : decode cL_law 978 = .ok (.iconst 0, 1) := by decide +kernel
theorem dL_law_979 : decode cL_law 979 = .ok (.ireturn, 1) := by decide +kernel
theorem dL_law_980 : decode cL_law 980 = .ok (.aload_n 1, 1) := by decide +kernel
theorem dL_law_981 : decode cL_law 981 = .ok (.aload_n 0, 1) := by decide +kernel
theorem dL_law_982 : decode cL_law 982 = .ok (.iload_n 3, 1) := by decide +kernel
theorem dL_law_983 : decode cL_law 983 = .ok (.iconst 1, 1) := by decide +kernel
theorem dL_law_984 : decode cL_law 984 = .ok (.iadd, 1) := by decide +kernel
theorem dL_law_985 : decode cL_law 985 = .ok (.iaload, 1) := by decide +kernel
theorem dL_law_986 : decode cL_law 986 = .ok (.aload_n 0, 1) := by decide +kernel
theorem dL_law_987 : decode cL_law 987 = .ok (.iload_n 3, 1) := by decide +kernel
theorem dL_law_988 : decode cL_law 988 = .ok (.iconst 2, 1) := by decide +kernel
theorem dL_law_989 : decode cL_law 989 = .ok (.iadd, 1) := by decide +kernel
theorem dL_law_990 : decode cL_law 990 = .ok (.iaload, 1) := by decide +kernel
theorem dL_law_991 : decode cL_law 991 = .ok (.aload_n 0, 1) := by decide +kernel
theorem dL_law_992 : decode cL_law 992 = .ok (.iload_n 3, 1) := by decide +kernel
theorem dL_law_993 : decode cL_law 993 = .ok (.iconst 3, 1) := by decide +kernel
theorem dL_law_994 : decode cL_law 994 = .ok (.iadd, 1) := by decide +kernel
theorem dL_law_995 : decode cL_law 995 = .ok (.iaload, 1) := by decide +kernel
theorem dL_law_996 : decode cL_law 996 = .ok (.aload_n 0, 1) := by decide +kernel
theorem dL_law_997 : decode cL_law 997 = .ok (.iload_n 3, 1) := by decide +kernel
theorem dL_law_998 : decode cL_law 998 = .ok (.iconst 4, 1) := by decide +kernel
theorem dL_law_999 : decode cL_law 999 = .ok (.iadd, 1) := by decide +kernel
theorem dL_law_1000 : decode cL_law 1000 = .ok (.iaload, 1) := by decide +kernel
theorem dL_law_1001 : decode cL_law 1001 = .ok (.aload_n 0, 1) := by decide +kernel
theorem dL_law_1002 : decode cL_law 1002 = .ok (.iload_n 3, 1) := by decide +kernel
theorem dL_law_1003 : decode cL_law 1003 = .ok (.iconst 5, 1) := by decide +kernel
theorem dL_law_1004 : decode cL_law 1004 = .ok (.iadd, 1) := by decide +kernel
theorem dL_law_1005 : decode cL_law 1005 = .ok (.iaload, 1) := by decide +kernel
theorem dL_law_1006 : decode cL_law 1006 = .ok (.invokevirtual 112, 3) := by decide +kernel
theorem dL_law_1009 : decode cL_law 1009 = .ok (.aload_n 2, 1) := by decide +kernel
theorem dL_law_1010 : decode cL_law 1010 = .ok (.aload_n 0, 1) := by decide +kernel
theorem dL_law_1011 : decode cL_law 1011 = .ok (.iload_n 3, 1) := by decide +kernel
theorem dL_law_1012 : decode cL_law 1012 = .ok (.iconst 1, 1) := by decide +kernel
theorem dL_law_1013 : decode cL_law 1013 = .ok (.iadd, 1) := by decide +kernel
theorem dL_law_1014 : decode cL_law 1014 = .ok (.iaload, 1) := by decide +kernel
theorem dL_law_1015 : decode cL_law 1015 = .ok (.aload_n 0, 1) := by decide +kernel
theorem dL_law_1016 : decode cL_law 1016 = .ok (.iload_n 3, 1) := by decide +kernel
theorem dL_law_1017 : decode cL_law 1017 = .ok (.iconst 2, 1) := by decide +kernel
theorem dL_law_1018 : decode cL_law 1018 = .ok (.iadd, 1) := by decide +kernel
theorem dL_law_1019 : decode cL_law 1019 = .ok (.iaload, 1) := by decide +kernel
theorem dL_law_1020 : decode cL_law 1020 = .ok (.aload_n 0, 1) := by decide +kernel
theorem dL_law_1021 : decode cL_law 1021 = .ok (.iload_n 3, 1) := by decide +kernel
theorem dL_law_1022 : decode cL_law 1022 = .ok (.iconst 3, 1) := by decide +kernel
theorem dL_law_1023 : decode cL_law 1023 = .ok (.iadd, 1) := by decide +kernel
theorem dL_law_1024 : decode cL_law 1024 = .ok (.iaload, 1) := by decide +kernel
theorem dL_law_1025 : decode cL_law 1025 = .ok (.aload_n 0, 1) := by decide +kernel
theorem dL_law_1026 : decode cL_law 1026 = .ok (.iload_n 3, 1) := by decide +kernel
theorem dL_law_1027 : decode cL_law 1027 = .ok (.iconst 4, 1) := by decide +kernel
theorem dL_law_1028 : decode cL_law 1028 = .ok (.iadd, 1) := by decide +kernel
theorem dL_law_1029 : decode cL_law 1029 = .ok (.iaload, 1) := by decide +kernel
theorem dL_law_1030 : decode cL_law 1030 = .ok (.aload_n 0, 1) := by decide +kernel
theorem dL_law_1031 : decode cL_law 1031 = .ok (.iload_n 3, 1) := by decide +kernel
theorem dL_law_1032 : decode cL_law 1032 = .ok (.iconst 5, 1) := by decide +kernel
theorem dL_law_1033 : decode cL_law 1033 = .ok (.iadd, 1) := by decide +kernel
theorem dL_law_1034 : decode cL_law 1034 = .ok (.iaload, 1) := by decide +kernel
theorem dL_law_1035 : decode cL_law 1035 = .ok (.invokevirtual 115, 3) := by decide +kernel
theorem dL_law_1038 : decode cL_law 1038 = .ok (.if_icmp .eq 187, 3) := by decide +kernel
theorem dL_law_1041 : decode cL_law 1041 = .ok (.iconst 0, 1) := by decide +kernel
theorem dL_law_1042 : decode cL_law 1042 = .ok (.ireturn, 1) := by decide +kernel
theorem dL_law_1043 : decode cL_law 1043 = .ok (.aload_n 1, 1) := by decide +kernel
theorem dL_law_1044 : decode cL_law 1044 = .ok (.aload_n 0, 1) := by decide +kernel
theorem dL_law_1045 : decode cL_law 1045 = .ok (.iload_n 3, 1) := by decide +kernel
theorem dL_law_1046 : decode cL_law 1046 = .ok (.iconst 1, 1) := by decide +kernel
theorem dL_law_1047 : decode cL_law 1047 = .ok (.iadd, 1) := by decide +kernel
theorem dL_law_1048 : decode cL_law 1048 = .ok (.iaload, 1) := by decide +kernel
theorem dL_law_1049 : decode cL_law 1049 = .ok (.aload_n 0, 1) := by decide +kernel
theorem dL_law_1050 : decode cL_law 1050 = .ok (.iload_n 3, 1) := by decide +kernel
theorem dL_law_1051 : decode cL_law 1051 = .ok (.iconst 2, 1) := by decide +kernel
theorem dL_law_1052 : decode cL_law 1052 = .ok (.iadd, 1) := by decide +kernel
theorem dL_law_1053 : decode cL_law 1053 = .ok (.iaload, 1) := by decide +kernel
theorem dL_law_1054 : decode cL_law 1054 = .ok (.aload_n 0, 1) := by decide +kernel
theorem dL_law_1055 : decode cL_law 1055 = .ok (.iload_n 3, 1) := by decide +kernel
theorem dL_law_1056 : decode cL_law 1056 = .ok (.iconst 3, 1) := by decide +kernel
theorem dL_law_1057 : decode cL_law 1057 = .ok (.iadd, 1) := by decide +kernel
theorem dL_law_1058 : decode cL_law 1058 = .ok (.iaload, 1) := by decide +kernel
theorem dL_law_1059 : decode cL_law 1059 = .ok (.invokevirtual 116, 3) := by decide +kernel
theorem dL_law_1062 : decode cL_law 1062 = .ok (.aload_n 2, 1) := by decide +kernel
theorem dL_law_1063 : decode cL_law 1063 = .ok (.aload_n 0, 1) := by decide +kernel
theorem dL_law_1064 : decode cL_law 1064 = .ok (.iload_n 3, 1) := by decide +kernel
theorem dL_law_1065 : decode cL_law 1065 = .ok (.iconst 1, 1) := by decide +kernel
theorem dL_law_1066 : decode cL_law 1066 = .ok (.iadd, 1) := by decide +kernel
theorem dL_law_1067 : decode cL_law 1067 = .ok (.iaload, 1) := by decide +kernel
theorem dL_law_1068 : decode cL_law 1068 = .ok (.aload_n 0, 1) := by decide +kernel
theorem dL_law_1069 : decode cL_law 1069 = .ok (.iload_n 3, 1) := by decide +kernel
theorem dL_law_1070 : decode cL_law 1070 = .ok (.iconst 2, 1) := by decide +kernel
theorem dL_law_1071 : decode cL_law 1071 = .ok (.iadd, 1) := by decide +kernel
theorem dL_law_1072 : decode cL_law 1072 = .ok (.iaload, 1) := by decide +kernel
theorem dL_law_1073 : decode cL_law 1073 = .ok (.aload_n 0, 1) := by decide +kernel
theorem dL_law_1074 : decode cL_law 1074 = .ok (.iload_n 3, 1) := by decide +kernel
theorem dL_law_1075 : decode cL_law 1075 = .ok (.iconst 3, 1) := by decide +kernel
theorem dL_law_1076 : decode cL_law 1076 = .ok (.iadd, 1) := by decide +kernel
theorem dL_law_1077 : decode cL_law 1077 = .ok (.iaload, 1) := by decide +kernel
theorem dL_law_1078 : decode cL_law 1078 = .ok (.invokevirtual 119, 3) := by decide +kernel
theorem dL_law_1081 : decode cL_law 1081 = .ok (.if_icmp .eq 144, 3) := by decide +kernel
theorem dL_law_1084 : decode cL_law 1084 = .ok (.iconst 0, 1) := by decide +kernel
theorem dL_law_1085 : decode cL_law 1085 = .ok (.ireturn, 1) := by decide +kernel
theorem dL_law_1086 : decode cL_law 1086 = .ok (.aload_n 1, 1) := by decide +kernel
theorem dL_law_1087 : decode cL_law 1087 = .ok (.aload_n 0, 1) := by decide +kernel
theorem dL_law_1088 : decode cL_law 1088 = .ok (.iload_n 3, 1) := by decide +kernel
theorem dL_law_1089 : decode cL_law 1089 = .ok (.iconst 1, 1) := by decide +kernel
theorem dL_law_1090 : decode cL_law 1090 = .ok (.iadd, 1) := by decide +kernel
theorem dL_law_1091 : decode cL_law 1091 = .ok (.iaload, 1) := by decide +kernel
theorem dL_law_1092 : decode cL_law 1092 = .ok (.invokevirtual 120, 3) := by decide +kernel
theorem dL_law_1095 : decode cL_law 1095 = .ok (.aload_n 2, 1) := by decide +kernel
theorem dL_law_1096 : decode cL_law 1096 = .ok (.aload_n 0, 1) := by decide +kernel
theorem dL_law_1097 : decode cL_law 1097 = .ok (.iload_n 3, 1) := by decide +kernel
theorem dL_law_1098 : decode cL_law 1098 = .ok (.iconst 1, 1) := by decide +kernel
theorem dL_law_1099 : decode cL_law 1099 = .ok (.iadd, 1) := by decide +kernel
theorem dL_law_1100 : decode cL_law 1100 = .ok (.iaload, 1) := by decide +kernel
theorem dL_law_1101 : decode cL_law 1101 = .ok (.invokevirtual 123, 3) := by decide +kernel
theorem dL_law_1104 : decode cL_law 1104 = .ok (.if_icmp .eq 121, 3) := by decide +kernel
theorem dL_law_1107 : decode cL_law 1107 = .ok (.iconst 0, 1) := by decide +kernel
theorem dL_law_1108 : decode cL_law 1108 = .ok (.ireturn, 1) := by decide +kernel
theorem dL_law_1109 : decode cL_law 1109 = .ok (.aload_n 1, 1) := by decide +kernel
theorem dL_law_1110 : decode cL_law 1110 = .ok (.aload_n 0, 1) := by decide +kernel
theorem dL_law_1111 : decode cL_law 1111 = .ok (.iload_n 3, 1) := by decide +kernel
theorem dL_law_1112 : decode cL_law 1112 = .ok (.iconst 1, 1) := by decide +kernel
theorem dL_law_1113 : decode cL_law 1113 = .ok (.iadd, 1) := by decide +kernel
theorem dL_law_1114 : decode cL_law 1114 = .ok (.iaload, 1) := by decide +kernel
theorem dL_law_1115 : decode cL_law 1115 = .ok (.aload_n 0, 1) := by decide +kernel
theorem dL_law_1116 : decode cL_law 1116 = .ok (.iload_n 3, 1) := by decide +kernel
theorem dL_law_1117 : decode cL_law 1117 = .ok (.iconst 2, 1) := by decide +kernel
theorem dL_law_1118 : decode cL_law 1118 = .ok (.iadd, 1) := by decide +kernel
theorem dL_law_1119 : decode cL_law 1119 = .ok (.iaload, 1) := by decide +kernel
theorem dL_law_1120 : decode cL_law 1120 = .ok (.aload_n 0, 1) := by decide +kernel
theorem dL_law_1121 : decode cL_law 1121 = .ok (.iload_n 3, 1) := by decide +kernel
theorem dL_law_1122 : decode cL_law 1122 = .ok (.iconst 3, 1) := by decide +kernel
theorem dL_law_1123 : decode cL_law 1123 = .ok (.iadd, 1) := by decide +kernel
theorem dL_law_1124 : decode cL_law 1124 = .ok (.iaload, 1) := by decide +kernel
theorem dL_law_1125 : decode cL_law 1125 = .ok (.aload_n 0, 1) := by decide +kernel
theorem dL_law_1126 : decode cL_law 1126 = .ok (.iload_n 3, 1) := by decide +kernel
theorem dL_law_1127 : decode cL_law 1127 = .ok (.iconst 4, 1) := by decide +kernel
theorem dL_law_1128 : decode cL_law 1128 = .ok (.iadd, 1) := by decide +kernel
theorem dL_law_1129 : decode cL_law 1129 = .ok (.iaload, 1) := by decide +kernel
theorem dL_law_1130 : decode cL_law 1130 = .ok (.invokevirtual 124, 3) := by decide +kernel
theorem dL_law_1133 : decode cL_law 1133 = .ok (.aload_n 2, 1) := by decide +kernel
theorem dL_law_1134 : decode cL_law 1134 = .ok (.aload_n 0, 1) := by decide +kernel
theorem dL_law_1135 : decode cL_law 1135 = .ok (.iload_n 3, 1) := by decide +kernel
theorem dL_law_1136 : decode cL_law 1136 = .ok (.iconst 1, 1) := by decide +kernel
theorem dL_law_1137 : decode cL_law 1137 = .ok (.iadd, 1) := by decide +kernel
theorem dL_law_1138 : decode cL_law 1138 = .ok (.iaload, 1) := by decide +kernel
theorem dL_law_1139 : decode cL_law 1139 = .ok (.aload_n 0, 1) := by decide +kernel
theorem dL_law_1140 : decode cL_law 1140 = .ok (.iload_n 3, 1) := by decide +kernel
theorem dL_law_1141 : decode cL_law 1141 = .ok (.iconst 2, 1) := by decide +kernel
theorem dL_law_1142 : decode cL_law 1142 = .ok (.iadd, 1) := by decide +kernel
theorem dL_law_1143 : decode cL_law 1143 = .ok (.iaload, 1) := by decide +kernel
theorem dL_law_1144 : decode cL_law 1144 = .ok (.aload_n 0, 1) := by decide +kernel
theorem dL_law_1145 : decode cL_law 1145 = .ok (.iload_n 3, 1) := by decide +kernel
theorem dL_law_1146 : decode cL_law 1146 = .ok (.iconst 3, 1) := by decide +kernel
theorem dL_law_1147 : decode cL_law 1147 = .ok (.iadd, 1) := by decide +kernel
theorem dL_law_1148 : decode cL_law 1148 = .ok (.iaload, 1) := by decide +kernel
theorem dL_law_1149 : decode cL_law 1149 = .ok (.aload_n 0, 1) := by decide +kernel
theorem dL_law_1150 : decode cL_law 1150 = .ok (.iload_n 3, 1) := by decide +kernel
theorem dL_law_1151 : decode cL_law 1151 = .ok (.iconst 4, 1) := by decide +kernel
theorem dL_law_1152 : decode cL_law 1152 = .ok (.iadd, 1) := by decide +kernel
theorem dL_law_1153 : decode cL_law 1153 = .ok (.iaload, 1) := by decide +kernel
theorem dL_law_1154 : decode cL_law 1154 = .ok (.invokevirtual 127, 3) := by decide +kernel
theorem dL_law_1157 : decode cL_law 1157 = .ok (.if_icmp .eq 68, 3) := by decide +kernel
theorem dL_law_1160 : decode cL_law 1160 = .ok (.iconst 0, 1) := by decide +kernel
theorem dL_law_1161 : decode cL_law 1161 = .ok (.ireturn, 1) := by decide +kernel
theorem dL_law_1162 : decode cL_law 1162 = .ok (.aload_n 1, 1) := by decide +kernel
theorem dL_law_1163 : decode cL_law 1163 = .ok (.aload_n 0, 1) := by decide +kernel
theorem dL_law_1164 : decode cL_law 1164 = .ok (.iload_n 3, 1) := by decide +kernel
theorem dL_law_1165 : decode cL_law 1165 = .ok (.iconst 1, 1) := by decide +kernel
theorem dL_law_1166 : decode cL_law 1166 = .ok (.iadd, 1) := by decide +kernel
theorem dL_law_1167 : decode cL_law 1167 = .ok (.iaload, 1) := by decide +kernel
theorem dL_law_1168 : decode cL_law 1168 = .ok (.aload_n 0, 1) := by decide +kernel
theorem dL_law_1169 : decode cL_law 1169 = .ok (.iload_n 3, 1) := by decide +kernel
theorem dL_law_1170 : decode cL_law 1170 = .ok (.iconst 2, 1) := by decide +kernel
theorem dL_law_1171 : decode cL_law 1171 = .ok (.iadd, 1) := by decide +kernel
theorem dL_law_1172 : decode cL_law 1172 = .ok (.iaload, 1) := by decide +kernel
theorem dL_law_1173 : decode cL_law 1173 = .ok (.aload_n 0, 1) := by decide +kernel
theorem dL_law_1174 : decode cL_law 1174 = .ok (.iload_n 3, 1) := by decide +kernel
theorem dL_law_1175 : decode cL_law 1175 = .ok (.iconst 3, 1) := by decide +kernel
theorem dL_law_1176 : decode cL_law 1176 = .ok (.iadd, 1) := by decide +kernel
theorem dL_law_1177 : decode cL_law 1177 = .ok (.iaload, 1) := by decide +kernel
theorem dL_law_1178 : decode cL_law 1178 = .ok (.aload_n 0, 1) := by decide +kernel
theorem dL_law_1179 : decode cL_law 1179 = .ok (.iload_n 3, 1) := by decide +kernel
theorem dL_law_1180 : decode cL_law 1180 = .ok (.iconst 4, 1) := by decide +kernel
theorem dL_law_1181 : decode cL_law 1181 = .ok (.iadd, 1) := by decide +kernel
theorem dL_law_1182 : decode cL_law 1182 = .ok (.iaload, 1) := by decide +kernel
theorem dL_law_1183 : decode cL_law 1183 = .ok (.aload_n 0, 1) := by decide +kernel
theorem dL_law_1184 : decode cL_law 1184 = .ok (.iload_n 3, 1) := by decide +kernel
theorem dL_law_1185 : decode cL_law 1185 = .ok (.iconst 5, 1) := by decide +kernel
theorem dL_law_1186 : decode cL_law 1186 = .ok (.iadd, 1) := by decide +kernel
theorem dL_law_1187 : decode cL_law 1187 = .ok (.iaload, 1) := by decide +kernel
theorem dL_law_1188 : decode cL_law 1188 = .ok (.invokevirtual 128, 3) := by decide +kernel
theorem dL_law_1191 : decode cL_law 1191 = .ok (.aload_n 2, 1) := by decide +kernel
theorem dL_law_1192 : decode cL_law 1192 = .ok (.aload_n 0, 1) := by decide +kernel
theorem dL_law_1193 : decode cL_law 1193 = .ok (.iload_n 3, 1) := by decide +kernel
theorem dL_law_1194 : decode cL_law 1194 = .ok (.iconst 1, 1) := by decide +kernel
theorem dL_law_1195 : decode cL_law 1195 = .ok (.iadd, 1) := by decide +kernel
theorem dL_law_1196 : decode cL_law 1196 = .ok (.iaload, 1) := by decide +kernel
theorem dL_law_1197 : decode cL_law 1197 = .ok (.aload_n 0, 1) := by decide +kernel
theorem dL_law_1198 : decode cL_law 1198 = .ok (.iload_n 3, 1) := by decide +kernel
theorem dL_law_1199 : decode cL_law 1199 = .ok (.iconst 2, 1) := by decide +kernel
theorem dL_law_1200 : decode cL_law 1200 = .ok (.iadd, 1) := by decide +kernel
theorem dL_law_1201 : decode cL_law 1201 = .ok (.iaload, 1) := by decide +kernel
theorem dL_law_1202 : decode cL_law 1202 = .ok (.aload_n 0, 1) := by decide +kernel
theorem dL_law_1203 : decode cL_law 1203 = .ok (.iload_n 3, 1) := by decide +kernel
theorem dL_law_1204 : decode cL_law 1204 = .ok (.iconst 3, 1) := by decide +kernel
theorem dL_law_1205 : decode cL_law 1205 = .ok (.iadd, 1) := by decide +kernel
theorem dL_law_1206 : decode cL_law 1206 = .ok (.iaload, 1) := by decide +kernel
theorem dL_law_1207 : decode cL_law 1207 = .ok (.aload_n 0, 1) := by decide +kernel
theorem dL_law_1208 : decode cL_law 1208 = .ok (.iload_n 3, 1) := by decide +kernel
theorem dL_law_1209 : decode cL_law 1209 = .ok (.iconst 4, 1) := by decide +kernel
theorem dL_law_1210 : decode cL_law 1210 = .ok (.iadd, 1) := by decide +kernel
theorem dL_law_1211 : decode cL_law 1211 = .ok (.iaload, 1) := by decide +kernel
theorem dL_law_1212 : decode cL_law 1212 = .ok (.aload_n 0, 1) := by decide +kernel
theorem dL_law_1213 : decode cL_law 1213 = .ok (.iload_n 3, 1) := by decide +kernel
theorem dL_law_1214 : decode cL_law 1214 = .ok (.iconst 5, 1) := by decide +kernel
theorem dL_law_1215 : decode cL_law 1215 = .ok (.iadd, 1) := by decide +kernel
theorem dL_law_1216 : decode cL_law 1216 = .ok (.iaload, 1) := by decide +kernel
theorem dL_law_1217 : decode cL_law 1217 = .ok (.invokevirtual 131, 3) := by decide +kernel
theorem dL_law_1220 : decode cL_law 1220 = .ok (.if_icmp .eq 5, 3) := by decide +kernel
theorem dL_law_1223 : decode cL_law 1223 = .ok (.iconst 0, 1) := by decide +kernel
theorem dL_law_1224 : decode cL_law 1224 = .ok (.ireturn, 1) := by decide +kernel
theorem dL_law_1225 : decode cL_law 1225 = .ok (.iinc 3 7, 3) := by decide +kernel
theorem dL_law_1228 : decode cL_law 1228 = .ok (.goto (-1210), 3) := by decide +kernel
theorem dL_law_1231 : decode cL_law 1231 = .ok (.iconst 1, 1) := by decide +kernel
theorem dL_law_1232 : decode cL_law 1232 = .ok (.ireturn, 1) := by decide +kernel
