theorem dX8_count_98 : decode cX8_count 98 = .ok (.iadd, 1) := by decide +kernel
theorem dX8_count_99 : decode cX8_count 99 = .ok (.istore_n 3, 1) := by decide +kernel
theorem dX8_count_100 : decode cX8_count 100 = .ok (.iinc 5 1, 3) := by decide +kernel
theorem dX8_count_103 : decode cX8_count 103 = .ok (.goto (-93), 3) := by decide +kernel
theorem dX8_count_106 : decode cX8_count 106 = .ok (.iload_n 1, 1) := by decide +kernel
theorem dX8_count_107 : decode cX8_count 107 = .ok (.ifCond .ne 10, 3) := by decide +kernel
theorem dX8_count_110 : decode cX8_count 110 = .ok (.aload_n 0, 1) := by decide +kernel
theorem dX8_count_111 : decode cX8_count 111 = .ok (.getfield 81, 3) := by decide +kernel
theorem dX8_count_114 : decode cX8_count 114 = .ok (.goto 44, 3) := by decide +kernel
theorem dX8_count_117 : decode cX8_count 117 = .ok (.iload_n 1, 1) := by decide +kernel
theorem dX8_count_118 : decode cX8_count 118 = .ok (.iconst 1, 1) := by decide +kernel
theorem dX8_count_119 : decode cX8_count 119 = .ok (.if_icmp .ne 10, 3) := by decide +kernel
theorem dX8_count_122 : decode cX8_count 122 = .ok (.aload_n 0, 1) := by decide +kernel
theorem dX8_count_123 : decode cX8_count 123 = .ok (.getfield 89, 3) := by decide +kernel
theorem dX8_count_126 : decode cX8_count 126 = .ok (.goto 32, 3) := by decide +kernel
theorem dX8_count_129 : decode cX8_count 129 = .ok (.iload_n 1, 1) := by decide +kernel
theorem dX8_count_130 : decode cX8_count 130 = .ok (.iconst 2, 1) := by decide +kernel
theorem dX8_count_131 : decode cX8_count 131 = .ok (.if_icmp .ne 7, 3) := by decide +kernel
theorem dX8_count_134 : decode cX8_count 134 = .ok (.iload_n 2, 1) := by decide +kernel
theorem dX8_count_135 : decode cX8_count 135 = .ok (.goto 23, 3) := by decide +kernel
theorem dX8_count_138 : decode cX8_count 138 = .ok (.iload_n 1, 1) := by decide +kernel
theorem dX8_count_139 : decode cX8_count 139 = .ok (.iconst 3, 1) := by decide +kernel
theorem dX8_count_140 : decode cX8_count 140 = .ok (.if_icmp .ne 7, 3) := by decide +kernel
theorem dX8_count_143 : decode cX8_count 143 = .ok (.iload_n 3, 1) := by decide +kernel
theorem dX8_count_144 : decode cX8_count 144 = .ok (.goto 14, 3) := by decide +kernel
theorem dX8_count_147 : decode cX8_count 147 = .ok (.iload_n 1, 1) := by decide +kernel
theorem dX8_count_148 : decode cX8_count 148 = .ok (.iconst 4, 1) := by decide +kernel
theorem dX8_count_149 : decode cX8_count 149 = .ok (.if_icmp .ne 8, 3) := by decide +kernel
theorem dX8_count_152 : decode cX8_count 152 = .ok (.iload 4, 2) := by decide +kernel
theorem dX8_count_154 : decode cX8_count 154 = .ok (.goto 4, 3) := by decide +kernel
theorem dX8_count_157 : decode cX8_count 157 = .ok (.iconst (-1), 1) := by decide +kernel
theorem dX8_count_158 : decode cX8_count 158 = .ok (.ireturn, 1) := by decide +kernel
theorem dX8_type_0 : decode cX8_type 0 = .ok (.iload_n 3, 1) := by decide +kernel
theorem dX8_type_1 : decode cX8_type 1 = .ok (.i2l, 1) := by decide +kernel
theorem dX8_type_2 : decode cX8_type 2 = .ok (.lconst 1, 1) := by decide +kernel
theorem dX8_type_3 : decode cX8_type 3 = .ok (.ldc2_w 141, 3) := by decide +kernel
theorem dX8_type_6 : decode cX8_type 6 = .ok (.invokestatic 85, 3) := by decide +kernel
theorem dX8_type_9 : decode cX8_type 9 = .ok (.ifCond .ne 5, 3) := by decide +kernel
theorem dX8_type_12 : decode cX8_type 12 = .ok (.iconst (-1), 1) := by decide +kernel
theorem dX8_type_13 : decode cX8_type 13 = .ok (.ireturn, 1) := by decide +kernel
theorem dX8_type_14 : decode cX8_type 14 = .ok (.iload_n 3, 1) := by decide +kernel
theorem dX8_type_15 : decode cX8_type 15 = .ok (.iconst 1, 1) := by decide +kernel
theorem dX8_type_16 : decode cX8_type 16 = .ok (.isub, 1) := by decide +kernel
theorem dX8_type_17 : decode cX8_type 17 = .ok (.istore 4, 2) := by decide +kernel
theorem dX8_type_19 : decode cX8_type 19 = .ok (.iload 4, 2) := by decide +kernel
theorem dX8_type_21 : decode cX8_type 21 = .ok (.ifCond .lt 34, 3) := by decide +kernel
theorem dX8_type_24 : decode cX8_type 24 = .ok (.lload_n 1, 1) := by decide +kernel
theorem dX8_type_25 : decode cX8_type 25 = .ok (.bipush 8, 2) := by decide +kernel
theorem dX8_type_27 : decode cX8_type 27 = .ok (.iload 4, 2) := by decide +kernel
theorem dX8_type_29 : decode cX8_type 29 = .ok (.imul, 1) := by decide +kernel
theorem dX8_type_30 : decode cX8_type 30 = .ok (.lshr, 1) := by decide +kernel
theorem dX8_type_31 : decode cX8_type 31 = .ok (.ldc2_w 143, 3) := by decide +kernel
theorem dX8_type_34 : decode cX8_type 34 = .ok (.land, 1) := by decide +kernel
theorem dX8_type_35 : decode cX8_type 35 = .ok (.ldc2_w 145, 3) := by decide +kernel
theorem dX8_type_38 : decode cX8_type 38 = .ok (.ldc2_w 147, 3) := by decide +kernel
theorem dX8_type_41 : decode cX8_type 41 = .ok (.invokestatic 85, 3) := by decide +kernel
theorem dX8_type_44 : decode cX8_type 44 = .ok (.ifCond .ne 5, 3) := by decide +kernel
theorem dX8_type_47 : decode cX8_type 47 = .ok (.iconst (-1), 1) := by decide +kernel
theorem dX8_type_48 : decode cX8_type 48 = .ok (.ireturn, 1) := by decide +kernel
theorem dX8_type_49 : decode cX8_type 49 = .ok (.iinc 4 (-1), 3) := by decide +kernel
theorem dX8_type_52 : decode cX8_type 52 = .ok (.goto (-33), 3) := by decide +kernel
theorem dX8_type_55 : decode cX8_type 55 = .ok (.aload_n 0, 1) := by decide +kernel
theorem dX8_type_56 : decode cX8_type 56 = .ok (.getfield 149, 3) := by decide +kernel
theorem dX8_type_59 : decode cX8_type 59 = .ok (.iload_n 3, 1) := by decide +kernel
theorem dX8_type_60 : decode cX8_type 60 = .ok (.iadd, 1) := by decide +kernel
theorem dX8_type_61 : decode cX8_type 61 = .ok (.bipush 120, 2) := by decide +kernel
theorem dX8_type_63 : decode cX8_type 63 = .ok (.if_icmp .le 6, 3) := by decide +kernel
theorem dX8_type_66 : decode cX8_type 66 = .ok (.bipush (-3), 2) := by decide +kernel
theorem dX8_type_68 : decode cX8_type 68 = .ok (.ireturn, 1) := by decide +kernel
theorem dX8_type_69 : decode cX8_type 69 = .ok (.iload_n 3, 1) := by decide +kernel
theorem dX8_type_70 : decode cX8_type 70 = .ok (.iconst 1, 1) := by decide +kernel
theorem dX8_type_71 : decode cX8_type 71 = .ok (.isub, 1) := by decide +kernel
theorem dX8_type_72 : decode cX8_type 72 = .ok (.istore 4, 2) := by decide +kernel
theorem dX8_type_74 : decode cX8_type 74 = .ok (.iload 4, 2) := by decide +kernel
theorem dX8_type_76 : decode cX8_type 76 = .ok (.ifCond .lt 40, 3) := by decide +kernel
theorem dX8_type_79 : decode cX8_type 79 = .ok (.aload_n 0, 1) := by decide +kernel
theorem dX8_type_80 : decode cX8_type 80 = .ok (.getfield 19, 3) := by decide +kernel
theorem dX8_type_83 : decode cX8_type 83 = .ok (.aload_n 0, 1) := by decide +kernel
theorem dX8_type_84 : decode cX8_type 84 = .ok (.getfield 149, 3) := by decide +kernel
theorem dX8_type_87 : decode cX8_type 87 = .ok (.lload_n 1, 1) := by decide +kernel
theorem dX8_type_88 : decode cX8_type 88 = .ok (.bipush 8, 2) := by decide +kernel
theorem dX8_type_90 : decode cX8_type 90 = .ok (.iload 4, 2) := by decide +kernel
theorem dX8_type_92 : decode cX8_type 92 = .ok (.imul, 1) := by decide +kernel
theorem dX8_type_93 : decode cX8_type 93 = .ok (.lshr, 1) := by decide +kernel
theorem dX8_type_94 : decode cX8_type 94 = .ok (.ldc2_w 143, 3) := by decide +kernel
theorem dX8_type_97 : decode cX8_type 97 = .ok (.land, 1) := by decide +kernel
theorem dX8_type_98 : decode cX8_type 98 = .ok (.l2i, 1) := by decide +kernel
theorem dX8_type_99 : decode cX8_type 99 = .ok (.iastore, 1) := by decide +kernel
theorem dX8_type_100 : decode cX8_type 100 = .ok (.aload_n 0, 1) := by decide +kernel
theorem dX8_type_101 : decode cX8_type 101 = .ok (.dup, 1) := by decide +kernel
theorem dX8_type_102 : decode cX8_type 102 = .ok (.getfield 149, 3) := by decide +kernel
theorem dX8_type_105 : decode cX8_type 105 = .ok (.iconst 1, 1) := by decide +kernel
theorem dX8_type_106 : decode cX8_type 106 = .ok (.iadd, 1) := by decide +kernel
theorem dX8_type_107 : decode cX8_type 107 = .ok (.putfield 149, 3) := by decide +kernel
theorem dX8_type_110 : decode cX8_type 110 = .ok (.iinc 4 (-1), 3) := by decide +kernel
theorem dX8_type_113 : decode cX8_type 113 = .ok (.goto (-39), 3) := by decide +kernel
theorem dX8_type_116 : decode cX8_type 116 = .ok (.aload_n 0, 1) := by decide +kernel
theorem dX8_type_117 : decode cX8_type 117 = .ok (.getfield 149, 3) := by decide +kernel
theorem dX8_type_120 : decode cX8_type 120 = .ok (.ireturn, 1) := by decide +kernel
theorem dX8_nextByte_0 : decode cX8_nextByte 0 = .ok (.aload_n 0, 1) := by decide +kernel
theorem dX8_nextByte_1 : decode cX8_nextByte 1 = .ok (.getfield 152, 3) := by decide +kernel
theorem dX8_nextByte_4 : decode cX8_nextByte 4 = .ok (.aload_n 0, 1) := by decide +kernel
theorem dX8_nextByte_5 : decode cX8_nextByte 5 = .ok (.getfield 149, 3) := by decide +kernel
theorem dX8_nextByte_8 : decode cX8_nextByte 8 = .ok (.if_icmp .ge 30, 3) := by decide +kernel
theorem dX8_nextByte_11 : decode cX8_nextByte 11 = .ok (.aload_n 0, 1) := by decide +kernel
theorem dX8_nextByte_12 : decode cX8_nextByte 12 = .ok (.getfield 19, 3) := by decide +kernel
theorem dX8_nextByte_15 : decode cX8_nextByte 15 = .ok (.aload_n 0, 1) := by decide +kernel
theorem dX8_nextByte_16 : decode cX8_nextByte 16 = .ok (.getfield 152, 3) := by decide +kernel
theorem dX8_nextByte_19 : decode cX8_nextByte 19 = .ok (.iaload, 1) := by decide +kernel
theorem dX8_nextByte_20 : decode cX8_nextByte 20 = .ok (.bipush 32, 2) := by decide +kernel
theorem dX8_nextByte_22 : decode cX8_nextByte 22 = .ok (.if_icmp .ne 16, 3) := by decide +kernel
theorem dX8_nextByte_25 : decode cX8_nextByte 25 = .ok (.aload_n 0, 1) := by decide +kernel
theorem dX8_nextByte_26 : decode cX8_nextByte 26 = .ok (.dup, 1) := by decide +kernel
theorem dX8_nextByte_27 : decode cX8_nextByte 27 = .ok (.getfield 152, 3) := by decide +kernel
theorem dX8_nextByte_30 : decode cX8_nextByte 30 = .ok (.iconst 1, 1) := by decide +kernel
theorem dX8_nextByte_31 : decode cX8_nextByte 31 = .ok (.iadd, 1) := by decide +kernel
theorem dX8_nextByte_32 : decode cX8_nextByte 32 = .ok (.putfield 152, 3) := by decide +kernel
theorem dX8_nextByte_35 : decode cX8_nextByte 35 = .ok (.goto (-35), 3) := by decide +kernel
theorem dX8_nextByte_38 : decode cX8_nextByte 38 = .ok (.aload_n 0, 1) := by decide +kernel
theorem dX8_nextByte_39 : decode cX8_nextByte 39 = .ok (.getfield 152, 3) := by decide +kernel
theorem dX8_nextByte_42 : decode cX8_nextByte 42 = .ok (.aload_n 0, 1) := by decide +kernel
theorem dX8_nextByte_43 : decode cX8_nextByte 43 = .ok (.getfield 149, 3) := by decide +kernel
theorem dX8_nextByte_46 : decode cX8_nextByte 46 = .ok (.if_icmp .ge 15, 3) := by decide +kernel
theorem dX8_nextByte_49 : decode cX8_nextByte 49 = .ok (.aload_n 0, 1) := by decide +kernel
theorem dX8_nextByte_50 : decode cX8_nextByte 50 = .ok (.getfield 19, 3) := by decide +kernel
theorem dX8_nextByte_53 : decode cX8_nextByte 53 = .ok (.aload_n 0, 1) := by decide +kernel
theorem dX8_nextByte_54 : decode cX8_nextByte 54 = .ok (.getfield 152, 3) := by decide +kernel
theorem dX8_nextByte_57 : decode cX8_nextByte 57 = .ok (.iaload, 1) := by decide +kernel
theorem dX8_nextByte_58 : decode cX8_nextByte 58 = .ok (.goto 4, 3) := by decide +kernel
theorem dX8_nextByte_61 : decode cX8_nextByte 61 = .ok (.iconst (-1), 1) := by decide +kernel
theorem dX8_nextByte_62 : decode cX8_nextByte 62 = .ok (.ireturn, 1) := by decide +kernel
theorem dX8_takes_0 : decode cX8_takes 0 = .ok (.aload_n 0, 1) := by decide +kernel
theorem dX8_takes_1 : decode cX8_takes 1 = .ok (.invokevirtual 155, 3) := by decide +kernel
theorem dX8_takes_4 : decode cX8_takes 4 = .ok (.iload_n 1, 1) := by decide +kernel
theorem dX8_takes_5 : decode cX8_takes 5 = .ok (.if_icmp .ne 7, 3) := by decide +kernel
theorem dX8_takes_8 : decode cX8_takes 8 = .ok (.iconst 1, 1) := by decide +kernel
theorem dX8_takes_9 : decode cX8_takes 9 = .ok (.goto 4, 3) := by decide +kernel
theorem dX8_takes_12 : decode cX8_takes 12 = .ok (.iconst 0, 1) := by decide +kernel
theorem dX8_takes_13 : decode cX8_takes 13 = .ok (.istore_n 2, 1) := by decide +kernel
theorem dX8_takes_14 : decode cX8_takes 14 = .ok (.aload_n 0, 1) := by decide +kernel
theorem dX8_takes_15 : decode cX8_takes 15 = .ok (.dup, 1) := by decide +kernel
theorem dX8_takes_16 : decode cX8_takes 16 = .ok (.getfield 152, 3) := by decide +kernel
theorem dX8_takes_19 : decode cX8_takes 19 = .ok (.iload_n 2, 1) := by decide +kernel
theorem dX8_takes_20 : decode cX8_takes 20 = .ok (.ifCond .eq 7, 3) := by decide +kernel
theorem dX8_takes_23 : decode cX8_takes 23 = .ok (.iconst 1, 1) := by decide +kernel
theorem dX8_takes_24 : decode cX8_takes 24 = .ok (.goto 4, 3) := by decide +kernel
theorem dX8_takes_27 : decode cX8_takes 27 = .ok (.iconst 0, 1) := by decide +kernel
theorem dX8_takes_28 : decode cX8_takes 28 = .ok (.iadd, 1) := by decide +kernel
theorem dX8_takes_29 : decode cX8_takes 29 = .ok (.putfield 152, 3) := by decide +kernel
theorem dX8_takes_32 : decode cX8_takes 32 = .ok (.iload_n 2, 1) := by decide +kernel
theorem dX8_takes_33 : decode cX8_takes 33 = .ok (.ireturn, 1) := by decide +kernel
theorem dX8_readNumber_0 : decode cX8_readNumber 0 = .ok (.aload_n 0, 1) := by decide +kernel
theorem dX8_readNumber_1 : decode cX8_readNumber 1 = .ok (.invokevirtual 155, 3) := by decide +kernel
theorem dX8_readNumber_4 : decode cX8_readNumber 4 = .ok (.pop, 1) := by decide +kernel
theorem dX8_readNumber_5 : decode cX8_readNumber 5 = .ok (.aload_n 0, 1) := by decide +kernel
theorem dX8_readNumber_6 : decode cX8_readNumber 6 = .ok (.getfield 152, 3) := by decide +kernel
theorem dX8_readNumber_9 : decode cX8_readNumber 9 = .ok (.istore_n 3, 1) := by decide +kernel
theorem dX8_readNumber_10 : decode cX8_readNumber 10 = .ok (.iconst 0, 1) := by decide +kernel
theorem dX8_readNumber_11 : decode cX8_readNumber 11 = .ok (.istore 4, 2) := by decide +kernel
theorem dX8_readNumber_13 : decode cX8_readNumber 13 = .ok (.aload_n 0, 1) := by decide +kernel
theorem dX8_readNumber_14 : decode cX8_readNumber 14 = .ok (.getfield 152, 3) := by decide +kernel
theorem dX8_readNumber_17 : decode cX8_readNumber 17 = .ok (.aload_n 0, 1) := by decide +kernel
theorem dX8_readNumber_18 : decode cX8_readNumber 18 = .ok (.getfield 149, 3) := by decide +kernel
theorem dX8_readNumber_21 : decode cX8_readNumber 21 = .ok (.if_icmp .ge 71, 3) := by decide +kernel
theorem dX8_readNumber_24 : decode cX8_readNumber 24 = .ok (.aload_n 0, 1) := by decide +kernel
theorem dX8_readNumber_25 : decode cX8_readNumber 25 = .ok (.getfield 19, 3) := by decide +kernel
theorem dX8_readNumber_28 : decode cX8_readNumber 28 = .ok (.aload_n 0, 1) := by decide +kernel
theorem dX8_readNumber_29 : decode cX8_readNumber 29 = .ok (.getfield 152, 3) := by decide +kernel
theorem dX8_readNumber_32 : decode cX8_readNumber 32 = .ok (.iaload, 1) := by decide +kernel
theorem dX8_readNumber_33 : decode cX8_readNumber 33 = .ok (.i2l, 1) := by decide +kernel
theorem dX8_readNumber_34 : decode cX8_readNumber 34 = .ok (.ldc2_w 159, 3) := by decide +kernel
theorem dX8_readNumber_37 : decode cX8_readNumber 37 = .ok (.ldc2_w 161, 3) := by decide +kernel
theorem dX8_readNumber_40 : decode cX8_readNumber 40 = .ok (.invokestatic 85, 3) := by decide +kernel
theorem dX8_readNumber_43 : decode cX8_readNumber 43 = .ok (.ifCond .eq 49, 3) := by decide +kernel
theorem dX8_readNumber_46 : decode cX8_readNumber 46 = .ok (.iload 4, 2) := by decide +kernel
theorem dX8_readNumber_48 : decode cX8_readNumber 48 = .ok (.sipush 999, 3) := by decide +kernel
theorem dX8_readNumber_51 : decode cX8_readNumber 51 = .ok (.if_icmp .le 8, 3) := by decide +kernel
theorem dX8_readNumber_54 : decode cX8_readNumber 54 = .ok (.iload 4, 2) := by decide +kernel
theorem dX8_readNumber_56 : decode cX8_readNumber 56 = .ok (.goto 21, 3) := by decide +kernel
theorem dX8_readNumber_59 : decode cX8_readNumber 59 = .ok (.bipush 10, 2) := by decide +kernel
theorem dX8_readNumber_61 : decode cX8_readNumber 61 = .ok (.iload 4, 2) := by decide +kernel
theorem dX8_readNumber_63 : decode cX8_readNumber 63 = .ok (.imul, 1) := by decide +kernel
theorem dX8_readNumber_64 : decode cX8_readNumber 64 = .ok (.aload_n 0, 1) := by decide +kernel
theorem dX8_readNumber_65 : decode cX8_readNumber 65 = .ok (.getfield 19, 3) := by decide +kernel
theorem dX8_readNumber_68 : decode cX8_readNumber 68 = .ok (.aload_n 0, 1) := by decide +kernel
theorem dX8_readNumber_69 : decode cX8_readNumber 69 = .ok (.getfield 152, 3) := by decide +kernel
theorem dX8_readNumber_72 : decode cX8_readNumber 72 = .ok (.iaload, 1) := by decide +kernel
theorem dX8_readNumber_73 : decode cX8_readNumber 73 = .ok (.iadd, 1) := by decide +kernel
theorem dX8_readNumber_74 : decode cX8_readNumber 74 = .ok (.bipush 48, 2) := by decide +kernel
theorem dX8_readNumber_76 : decode cX8_readNumber 76 = .ok (.isub, 1) := by decide +kernel
theorem dX8_readNumber_77 : decode cX8_readNumber 77 = .ok (.istore 4, 2) := by decide +kernel
theorem dX8_readNumber_79 : decode cX8_readNumber 79 = .ok (.aload_n 0, 1) := by decide +kernel
theorem dX8_readNumber_80 : decode cX8_readNumber 80 = .ok (.dup, 1) := by decide +kernel
theorem dX8_readNumber_81 : decode cX8_readNumber 81 = .ok (.getfield 152, 3) := by decide +kernel
theorem dX8_readNumber_84 : decode cX8_readNumber 84 = .ok (.iconst 1, 1) := by decide +kernel
theorem dX8_readNumber_85 : decode cX8_readNumber 85 = .ok (.iadd, 1) := by decide +kernel
theorem dX8_readNumber_86 : decode cX8_readNumber 86 = .ok (.putfield 152, 3) := by decide +kernel
theorem dX8_readNumber_89 : decode cX8_readNumber 89 = .ok (.goto (-76), 3) := by decide +kernel
theorem dX8_readNumber_92 : decode cX8_readNumber 92 = .ok (.aload_n 0, 1) := by decide +kernel
theorem dX8_readNumber_93 : decode cX8_readNumber 93 = .ok (.getfield 152, 3) := by decide +kernel
theorem dX8_readNumber_96 : decode cX8_readNumber 96 = .ok (.iload_n 3, 1) := by decide +kernel
theorem dX8_readNumber_97 : decode cX8_readNumber 97 = .ok (.if_icmp .ne 5, 3) := by decide +kernel
theorem dX8_readNumber_100 : decode cX8_readNumber 100 = .ok (.iconst (-1), 1) := by decide +kernel
theorem dX8_readNumber_101 : decode cX8_readNumber 101 = .ok (.ireturn, 1) := by decide +kernel
theorem dX8_readNumber_102 : decode cX8_readNumber 102 = .ok (.iload 4, 2) := by decide +kernel
theorem dX8_readNumber_104 : decode cX8_readNumber 104 = .ok (.i2l, 1) := by decide +kernel
theorem dX8_readNumber_105 : decode cX8_readNumber 105 = .ok (.iload_n 1, 1) := by decide +kernel
theorem dX8_readNumber_106 : decode cX8_readNumber 106 = .ok (.i2l, 1) := by decide +kernel
theorem dX8_readNumber_107 : decode cX8_readNumber 107 = .ok (.iload_n 2, 1) := by decide +kernel
theorem dX8_readNumber_108 : decode cX8_readNumber 108 = .ok (.i2l, 1) := by decide +kernel
theorem dX8_readNumber_109 : decode cX8_readNumber 109 = .ok (.invokestatic 85, 3) := by decide +kernel
theorem dX8_readNumber_112 : decode cX8_readNumber 112 = .ok (.ifCond .ne 10, 3) := by decide +kernel
theorem dX8_readNumber_115 : decode cX8_readNumber 115 = .ok (.aload_n 0, 1) := by decide +kernel
theorem dX8_readNumber_116 : decode cX8_readNumber 116 = .ok (.iload_n 3, 1) := by decide +kernel
theorem dX8_readNumber_117 : decode cX8_readNumber 117 = .ok (.putfield 152, 3) := by decide +kernel
theorem dX8_readNumber_120 : decode cX8_readNumber 120 = .ok (.iconst (-1), 1) := by decide +kernel
theorem dX8_readNumber_121 : decode cX8_readNumber 121 = .ok (.ireturn, 1) := by decide +kernel
theorem dX8_readNumber_122 : decode cX8_readNumber 122 = .ok (.iload 4, 2) := by decide +kernel
theorem dX8_readNumber_124 : decode cX8_readNumber 124 = .ok (.ireturn, 1) := by decide +kernel
theorem dX8_readDigit_0 : decode cX8_readDigit 0 = .ok (.aload_n 0, 1) := by decide +kernel
theorem dX8_readDigit_1 : decode cX8_readDigit 1 = .ok (.invokevirtual 155, 3) := by decide +kernel
theorem dX8_readDigit_4 : decode cX8_readDigit 4 = .ok (.bipush 48, 2) := by decide +kernel
theorem dX8_readDigit_6 : decode cX8_readDigit 6 = .ok (.isub, 1) := by decide +kernel
theorem dX8_readDigit_7 : decode cX8_readDigit 7 = .ok (.istore_n 2, 1) := by decide +kernel
theorem dX8_readDigit_8 : decode cX8_readDigit 8 = .ok (.iload_n 2, 1) := by decide +kernel
theorem dX8_readDigit_9 : decode cX8_readDigit 9 = .ok (.i2l, 1) := by decide +kernel
theorem dX8_readDigit_10 : decode cX8_readDigit 10 = .ok (.lconst 0, 1) := by decide +kernel
theorem dX8_readDigit_11 : decode cX8_readDigit 11 = .ok (.iload_n 1, 1) := by decide +kernel
theorem dX8_readDigit_12 : decode cX8_readDigit 12 = .ok (.i2l, 1) := by decide +kernel
theorem dX8_readDigit_13 : decode cX8_readDigit 13 = .ok (.invokestatic 85, 3) := by decide +kernel
theorem dX8_readDigit_16 : decode cX8_readDigit 16 = .ok (.ifCond .ne 5, 3) := by decide +kernel
theorem dX8_readDigit_19 : decode cX8_readDigit 19 = .ok (.iconst (-1), 1) := by decide +kernel
theorem dX8_readDigit_20 : decode cX8_readDigit 20 = .ok (.ireturn, 1) := by decide +kernel
theorem dX8_readDigit_21 : decode cX8_readDigit 21 = .ok (.aload_n 0, 1) := by decide +kernel
theorem dX8_readDigit_22 : decode cX8_readDigit 22 = .ok (.dup, 1) := by decide +kernel
theorem dX8_readDigit_23 : decode cX8_readDigit 23 = .ok (.getfield 152, 3) := by decide +kernel
theorem dX8_readDigit_26 : decode cX8_readDigit 26 = .ok (.iconst 1, 1) := by decide +kernel
theorem dX8_readDigit_27 : decode cX8_readDigit 27 = .ok (.iadd, 1) := by decide +kernel
theorem dX8_readDigit_28 : decode cX8_readDigit 28 = .ok (.putfield 152, 3) := by decide +kernel
theorem dX8_readDigit_31 : decode cX8_readDigit 31 = .ok (.iload_n 2, 1) := by decide +kernel
theorem dX8_readDigit_32 : decode cX8_readDigit 32 = .ok (.ireturn, 1) := by decide +kernel
theorem dX8_readBride_0 : decode cX8_readBride 0 = .ok (.aload_n 0, 1) := by decide +kernel
theorem dX8_readBride_1 : decode cX8_readBride 1 = .ok (.getfield 22, 3) := by decide +kernel
theorem dX8_readBride_4 : decode cX8_readBride 4 = .ok (.iload_n 1, 1) := by decide +kernel
theorem dX8_readBride_5 : decode cX8_readBride 5 = .ok (.aload_n 0, 1) := by decide +kernel
theorem dX8_readBride_6 : decode cX8_readBride 6 = .ok (.bipush 20, 2) := by decide +kernel
theorem dX8_readBride_8 : decode cX8_readBride 8 = .ok (.bipush 60, 2) := by decide +kernel
theorem dX8_readBride_10 : decode cX8_readBride 10 = .ok (.invokevirtual 163, 3) := by decide +kernel
theorem dX8_readBride_13 : decode cX8_readBride 13 = .ok (.iastore, 1) := by decide +kernel
theorem dX8_readBride_14 : decode cX8_readBride 14 = .ok (.aload_n 0, 1) := by decide +kernel
theorem dX8_readBride_15 : decode cX8_readBride 15 = .ok (.getfield 22, 3) := by decide +kernel
theorem dX8_readBride_18 : decode cX8_readBride 18 = .ok (.iload_n 1, 1) := by decide +kernel
theorem dX8_readBride_19 : decode cX8_readBride 19 = .ok (.iaload, 1) := by decide +kernel
theorem dX8_readBride_20 : decode cX8_readBride 20 = .ok (.ifCond .lt 12, 3) := by decide +kernel
theorem dX8_readBride_23 : decode cX8_readBride 23 = .ok (.aload_n 0, 1) := by decide +kernel
theorem dX8_readBride_24 : decode cX8_readBride 24 = .ok (.bipush 47, 2) := by decide +kernel
theorem dX8_readBride_26 : decode cX8_readBride 26 = .ok (.invokevirtual 167, 3) := by decide +kernel
theorem dX8_readBride_29 : decode cX8_readBride 29 = .ok (.ifCond .ne 5, 3) := by decide +kernel
theorem dX8_readBride_32 : decode cX8_readBride 32 = .ok (.iconst 0, 1) := by decide +kernel
theorem dX8_readBride_33 : decode cX8_readBride 33 = .ok (.ireturn, 1) := by decide +kernel
theorem dX8_readBride_34 : decode cX8_readBride 34 = .ok (.aload_n 0, 1) := by decide +kernel
theorem dX8_readBride_35 : decode cX8_readBride 35 = .ok (.getfield 22, 3) := by decide +kernel
theorem dX8_readBride_38 : decode cX8_readBride 38 = .ok (.iload_n 1, 1) := by decide +kernel
theorem dX8_readBride_39 : decode cX8_readBride 39 = .ok (.iconst 1, 1) := by decide +kernel
theorem dX8_readBride_40 : decode cX8_readBride 40 = .ok (.iadd, 1) := by decide +kernel
theorem dX8_readBride_41 : decode cX8_readBride 41 = .ok (.aload_n 0, 1) := by decide +kernel
theorem dX8_readBride_42 : decode cX8_readBride 42 = .ok (.bipush 20, 2) := by decide +kernel
theorem dX8_readBride_44 : decode cX8_readBride 44 = .ok (.bipush 60, 2) := by decide +kernel
theorem dX8_readBride_46 : decode cX8_readBride 46 = .ok (.invokevirtual 163, 3) := by decide +kernel
theorem dX8_readBride_49 : decode cX8_readBride 49 = .ok (.iastore, 1) := by decide +kernel
theorem dX8_readBride_50 : decode cX8_readBride 50 = .ok (.aload_n 0, 1) := by decide +kernel
theorem dX8_readBride_51 : decode cX8_readBride 51 = .ok (.getfield 22, 3) := by decide +kernel
theorem dX8_readBride_54 : decode cX8_readBride 54 = .ok (.iload_n 1, 1) := by decide +kernel
theorem dX8_readBride_55 : decode cX8_readBride 55 = .ok (.iconst 1, 1) := by decide +kernel
theorem dX8_readBride_56 : decode cX8_readBride 56 = .ok (.iadd, 1) := by decide +kernel
theorem dX8_readBride_57 : decode cX8_readBride 57 = .ok (.iaload, 1) := by decide +kernel
theorem dX8_readBride_58 : decode cX8_readBride 58 = .ok (.ifCond .ge 5, 3) := by decide +kernel
theorem dX8_readBride_61 : decode cX8_readBride 61 = .ok (.iconst 0, 1) := by decide +kernel
theorem dX8_readBride_62 : decode cX8_readBride 62 = .ok (.ireturn, 1) := by decide +kernel
theorem dX8_readBride_63 : decode cX8_readBride 63 = .ok (.aload_n 0, 1) := by decide +kernel
theorem dX8_readBride_64 : decode cX8_readBride 64 = .ok (.getfield 22, 3) := by decide +kernel
theorem dX8_readBride_67 : decode cX8_readBride 67 = .ok (.iload_n 1, 1) := by decide +kernel
theorem dX8_readBride_68 : decode cX8_readBride 68 = .ok (.iconst 2, 1) := by decide +kernel
theorem dX8_readBride_69 : decode cX8_readBride 69 = .ok (.iadd, 1) := by decide +kernel
theorem dX8_readBride_70 : decode cX8_readBride 70 = .ok (.aload_n 0, 1) := by decide +kernel
theorem dX8_readBride_71 : decode cX8_readBride 71 = .ok (.bipush 115, 2) := by decide +kernel
theorem dX8_readBride_73 : decode cX8_readBride 73 = .ok (.invokevirtual 167, 3) := by decide +kernel
theorem dX8_readBride_76 : decode cX8_readBride 76 = .ok (.ifCond .eq 11, 3) := by decide +kernel
theorem dX8_readBride_79 : decode cX8_readBride 79 = .ok (.aload_n 0, 1) := by decide +kernel
theorem dX8_readBride_80 : decode cX8_readBride 80 = .ok (.iconst 4, 1) := by decide +kernel
theorem dX8_readBride_81 : decode cX8_readBride 81 = .ok (.invokevirtual 170, 3) := by decide +kernel
theorem dX8_readBride_84 : decode cX8_readBride 84 = .ok (.goto 4, 3) := by decide +kernel
theorem dX8_readBride_87 : decode cX8_readBride 87 = .ok (.iconst 0, 1) := by decide +kernel
theorem dX8_readBride_88 : decode cX8_readBride 88 = .ok (.iastore, 1) := by decide +kernel
theorem dX8_readBride_89 : decode cX8_readBride 89 = .ok (.aload_n 0, 1) := by decide +kernel
theorem dX8_readBride_90 : decode cX8_readBride 90 = .ok (.getfield 22, 3) := by decide +kernel
theorem dX8_readBride_93 : decode cX8_readBride 93 = .ok (.iload_n 1, 1) := by decide +kernel
theorem dX8_readBride_94 : decode cX8_readBride 94 = .ok (.iconst 2, 1) := by decide +kernel
theorem dX8_readBride_95 : decode cX8_readBride 95 = .ok (.iadd, 1) := by decide +kernel
theorem dX8_readBride_96 : decode cX8_readBride 96 = .ok (.iaload, 1) := by decide +kernel
theorem dX8_readBride_97 : decode cX8_readBride 97 = .ok (.ifCond .ge 5, 3) := by decide +kernel
theorem dX8_readBride_100 : decode cX8_readBride 100 = .ok (.iconst 0, 1) := by decide +kernel
theorem dX8_readBride_101 : decode cX8_readBride 101 = .ok (.ireturn, 1) := by decide +kernel
theorem dX8_readBride_102 : decode cX8_readBride 102 = .ok (.aload_n 0, 1) := by decide +kernel
theorem dX8_readBride_103 : decode cX8_readBride 103 = .ok (.getfield 22, 3) := by decide +kernel
theorem dX8_readBride_106 : decode cX8_readBride 106 = .ok (.iload_n 1, 1) := by decide +kernel
theorem dX8_readBride_107 : decode cX8_readBride 107 = .ok (.iconst 3, 1) := by decide +kernel
theorem dX8_readBride_108 : decode cX8_readBride 108 = .ok (.iadd, 1) := by decide +kernel
theorem dX8_readBride_109 : decode cX8_readBride 109 = .ok (.aload_n 0, 1) := by decide +kernel
theorem dX8_readBride_110 : decode cX8_readBride 110 = .ok (.bipush 104, 2) := by decide +kernel
theorem dX8_readBride_112 : decode cX8_readBride 112 = .ok (.invokevirtual 167, 3) := by decide +kernel
theorem dX8_readBride_115 : decode cX8_readBride 115 = .ok (.ifCond .eq 13, 3) := by decide +kernel
theorem dX8_readBride_118 : decode cX8_readBride 118 = .ok (.aload_n 0, 1) := by decide +kernel
theorem dX8_readBride_119 : decode cX8_readBride 119 = .ok (.iconst 0, 1) := by decide +kernel
theorem dX8_readBride_120 : decode cX8_readBride 120 = .ok (.bipush 11, 2) := by decide +kernel
theorem dX8_readBride_122 : decode cX8_readBride 122 = .ok (.invokevirtual 163, 3) := by decide +kernel
theorem dX8_readBride_125 : decode cX8_readBride 125 = .ok (.goto 4, 3) := by decide +kernel
theorem dX8_readBride_128 : decode cX8_readBride 128 = .ok (.iconst 0, 1) := by decide +kernel
theorem dX8_readBride_129 : decode cX8_readBride 129 = .ok (.iastore, 1) := by decide +kernel
theorem dX8_readBride_130 : decode cX8_readBride 130 = .ok (.aload_n 0, 1) := by decide +kernel
theorem dX8_readBride_131 : decode cX8_readBride 131 = .ok (.getfield 22, 3) := by decide +kernel
theorem dX8_readBride_134 : decode cX8_readBride 134 = .ok (.iload_n 1, 1) := by decide +kernel
theorem dX8_readBride_135 : decode cX8_readBride 135 = .ok (.iconst 3, 1) := by decide +kernel
theorem dX8_readBride_136 : decode cX8_readBride 136 = .ok (.iadd, 1) := by decide +kernel
theorem dX8_readBride_137 : decode cX8_readBride 137 = .ok (.iaload, 1) := by decide +kernel
theorem dX8_readBride_138 : decode cX8_readBride 138 = .ok (.ifCond .lt 7, 3) := by decide +kernel
theorem dX8_readBride_141 : decode cX8_readBride 141 = .ok (.iconst 1, 1) := by decide +kernel
theorem dX8_readBride_142 : decode cX8_readBride 142 = .ok (.goto 4, 3) := by decide +kernel
theorem dX8_readBride_145 : decode cX8_readBride 145 = .ok (.iconst 0, 1) := by decide +kernel
theorem dX8_readBride_146 : decode cX8_readBride 146 = .ok (.ireturn, 1) := by decide +kernel
theorem dX8_readShoe_0 : decode cX8_readShoe 0 = .ok (.aload_n 0, 1) := by decide +kernel
theorem dX8_readShoe_1 : decode cX8_readShoe 1 = .ok (.invokevirtual 155, 3) := by decide +kernel
theorem dX8_readShoe_4 : decode cX8_readShoe 4 = .ok (.istore_n 2, 1) := by decide +kernel
theorem dX8_readShoe_5 : decode cX8_readShoe 5 = .ok (.iload_n 2, 1) := by decide +kernel
theorem dX8_readShoe_6 : decode cX8_readShoe 6 = .ok (.bipush 108, 2) := by decide +kernel
theorem dX8_readShoe_8 : decode cX8_readShoe 8 = .ok (.if_icmp .eq 11, 3) := by decide +kernel
theorem dX8_readShoe_11 : decode cX8_readShoe 11 = .ok (.iload_n 2, 1) := by decide +kernel
theorem dX8_readShoe_12 : decode cX8_readShoe 12 = .ok (.bipush 114, 2) := by decide +kernel
theorem dX8_readShoe_14 : decode cX8_readShoe 14 = .ok (.if_icmp .eq 5, 3) := by decide +kernel
theorem dX8_readShoe_17 : decode cX8_readShoe 17 = .ok (.iconst 0, 1) := by decide +kernel
theorem dX8_readShoe_18 : decode cX8_readShoe 18 = .ok (.ireturn, 1) := by decide +kernel
theorem dX8_readShoe_19 : decode cX8_readShoe 19 = .ok (.aload_n 0, 1) := by decide +kernel
theorem dX8_readShoe_20 : decode cX8_readShoe 20 = .ok (.dup, 1) := by decide +kernel
theorem dX8_readShoe_21 : decode cX8_readShoe 21 = .ok (.getfield 152, 3) := by decide +kernel
theorem dX8_readShoe_24 : decode cX8_readShoe 24 = .ok (.iconst 1, 1) := by decide +kernel
theorem dX8_readShoe_25 : decode cX8_readShoe 25 = .ok (.iadd, 1) := by decide +kernel
theorem dX8_readShoe_26 : decode cX8_readShoe 26 = .ok (.putfield 152, 3) := by decide +kernel
theorem dX8_readShoe_29 : decode cX8_readShoe 29 = .ok (.aload_n 0, 1) := by decide +kernel
theorem dX8_readShoe_30 : decode cX8_readShoe 30 = .ok (.getfield 22, 3) := by decide +kernel
theorem dX8_readShoe_33 : decode cX8_readShoe 33 = .ok (.iload_n 1, 1) := by decide +kernel
theorem dX8_readShoe_34 : decode cX8_readShoe 34 = .ok (.iload_n 2, 1) := by decide +kernel
theorem dX8_readShoe_35 : decode cX8_readShoe 35 = .ok (.bipush 108, 2) := by decide +kernel
theorem dX8_readShoe_37 : decode cX8_readShoe 37 = .ok (.if_icmp .ne 7, 3) := by decide +kernel
theorem dX8_readShoe_40 : decode cX8_readShoe 40 = .ok (.iconst 0, 1) := by decide +kernel
theorem dX8_readShoe_41 : decode cX8_readShoe 41 = .ok (.goto 4, 3) := by decide +kernel
theorem dX8_readShoe_44 : decode cX8_readShoe 44 = .ok (.iconst 1, 1) := by decide +kernel
theorem dX8_readShoe_45 : decode cX8_readShoe 45 = .ok (.iastore, 1) := by decide +kernel
theorem dX8_readShoe_46 : decode cX8_readShoe 46 = .ok (.aload_n 0, 1) := by decide +kernel
theorem dX8_readShoe_47 : decode cX8_readShoe 47 = .ok (.getfield 22, 3) := by decide +kernel
theorem dX8_readShoe_50 : decode cX8_readShoe 50 = .ok (.iload_n 1, 1) := by decide +kernel
theorem dX8_readShoe_51 : decode cX8_readShoe 51 = .ok (.iconst 1, 1) := by decide +kernel
theorem dX8_readShoe_52 : decode cX8_readShoe 52 = .ok (.iadd, 1) := by decide +kernel
theorem dX8_readShoe_53 : decode cX8_readShoe 53 = .ok (.aload_n 0, 1) := by decide +kernel
theorem dX8_readShoe_54 : decode cX8_readShoe 54 = .ok (.bipush 20, 2) := by decide +kernel
theorem dX8_readShoe_56 : decode cX8_readShoe 56 = .ok (.bipush 70, 2) := by decide +kernel
theorem dX8_readShoe_58 : decode cX8_readShoe 58 = .ok (.invokevirtual 163, 3) := by decide +kernel
theorem dX8_readShoe_61 : decode cX8_readShoe 61 = .ok (.iastore, 1) := by decide +kernel
theorem dX8_readShoe_62 : decode cX8_readShoe 62 = .ok (.aload_n 0, 1) := by decide +kernel
theorem dX8_readShoe_63 : decode cX8_readShoe 63 = .ok (.getfield 22, 3) := by decide +kernel
theorem dX8_readShoe_66 : decode cX8_readShoe 66 = .ok (.iload_n 1, 1) := by decide +kernel
theorem dX8_readShoe_67 : decode cX8_readShoe 67 = .ok (.iconst 2, 1) := by decide +kernel
theorem dX8_readShoe_68 : decode cX8_readShoe 68 = .ok (.iadd, 1) := by decide +kernel
theorem dX8_readShoe_69 : decode cX8_readShoe 69 = .ok (.aload_n 0, 1) := by decide +kernel
theorem dX8_readShoe_70 : decode cX8_readShoe 70 = .ok (.getfield 22, 3) := by decide +kernel
theorem dX8_readShoe_73 : decode cX8_readShoe 73 = .ok (.iload_n 1, 1) := by decide +kernel
theorem dX8_readShoe_74 : decode cX8_readShoe 74 = .ok (.iconst 1, 1) := by decide +kernel
theorem dX8_readShoe_75 : decode cX8_readShoe 75 = .ok (.iadd, 1) := by decide +kernel
theorem dX8_readShoe_76 : decode cX8_readShoe 76 = .ok (.iaload, 1) := by decide +kernel
theorem dX8_readShoe_77 : decode cX8_readShoe 77 = .ok (.ifCond .ge 7, 3) := by decide +kernel
theorem dX8_readShoe_80 : decode cX8_readShoe 80 = .ok (.iconst 0, 1) := by decide +kernel
theorem dX8_readShoe_81 : decode cX8_readShoe 81 = .ok (.goto 43, 3) := by decide +kernel
theorem dX8_readShoe_84 : decode cX8_readShoe 84 = .ok (.aload_n 0, 1) := by decide +kernel
theorem dX8_readShoe_85 : decode cX8_readShoe 85 = .ok (.bipush 103, 2) := by decide +kernel
theorem dX8_readShoe_87 : decode cX8_readShoe 87 = .ok (.invokevirtual 167, 3) := by decide +kernel
theorem dX8_readShoe_90 : decode cX8_readShoe 90 = .ok (.ifCond .eq 7, 3) := by decide +kernel
theorem dX8_readShoe_93 : decode cX8_readShoe 93 = .ok (.iconst 1, 1) := by decide +kernel
theorem dX8_readShoe_94 : decode cX8_readShoe 94 = .ok (.goto 30, 3) := by decide +kernel
theorem dX8_readShoe_97 : decode cX8_readShoe 97 = .ok (.aload_n 0, 1) := by decide +kernel
theorem dX8_readShoe_98 : decode cX8_readShoe 98 = .ok (.bipush 118, 2) := by decide +kernel
theorem dX8_readShoe_100 : decode cX8_readShoe 100 = .ok (.invokevirtual 167, 3) := by decide +kernel
theorem dX8_readShoe_103 : decode cX8_readShoe 103 = .ok (.ifCond .eq 7, 3) := by decide +kernel
theorem dX8_readShoe_106 : decode cX8_readShoe 106 = .ok (.iconst 2, 1) := by decide +kernel
theorem dX8_readShoe_107 : decode cX8_readShoe 107 = .ok (.goto 17, 3) := by decide +kernel
theorem dX8_readShoe_110 : decode cX8_readShoe 110 = .ok (.aload_n 0, 1) := by decide +kernel
theorem dX8_readShoe_111 : decode cX8_readShoe 111 = .ok (.bipush 112, 2) := by decide +kernel
theorem dX8_readShoe_113 : decode cX8_readShoe 113 = .ok (.invokevirtual 167, 3) := by decide +kernel
theorem dX8_readShoe_116 : decode cX8_readShoe 116 = .ok (.ifCond .eq 7, 3) := by decide +kernel
theorem dX8_readShoe_119 : decode cX8_readShoe 119 = .ok (.iconst 3, 1) := by decide +kernel
theorem dX8_readShoe_120 : decode cX8_readShoe 120 = .ok (.goto 4, 3) := by decide +kernel
theorem dX8_readShoe_123 : decode cX8_readShoe 123 = .ok (.iconst 0, 1) := by decide +kernel
theorem dX8_readShoe_124 : decode cX8_readShoe 124 = .ok (.iastore, 1) := by decide +kernel
theorem dX8_readShoe_125 : decode cX8_readShoe 125 = .ok (.aload_n 0, 1) := by decide +kernel
theorem dX8_readShoe_126 : decode cX8_readShoe 126 = .ok (.getfield 22, 3) := by decide +kernel
theorem dX8_readShoe_129 : decode cX8_readShoe 129 = .ok (.iload_n 1, 1) := by decide +kernel
theorem dX8_readShoe_130 : decode cX8_readShoe 130 = .ok (.iconst 1, 1) := by decide +kernel
theorem dX8_readShoe_131 : decode cX8_readShoe 131 = .ok (.iadd, 1) := by decide +kernel
theorem dX8_readShoe_132 : decode cX8_readShoe 132 = .ok (.iaload, 1) := by decide +kernel
theorem dX8_readShoe_133 : decode cX8_readShoe 133 = .ok (.ifCond .lt 7, 3) := by decide +kernel
theorem dX8_readShoe_136 : decode cX8_readShoe 136 = .ok (.iconst 1, 1) := by decide +kernel
theorem dX8_readShoe_137 : decode cX8_readShoe 137 = .ok (.goto 4, 3) := by decide +kernel
theorem dX8_readShoe_140 : decode cX8_readShoe 140 = .ok (.iconst 0, 1) := by decide +kernel
theorem dX8_readShoe_141 : decode cX8_readShoe 141 = .ok (.ireturn, 1) := by decide +kernel
theorem dX8_readAll_0 : decode cX8_readAll 0 = .ok (.aload_n 0, 1) := by decide +kernel
theorem dX8_readAll_1 : decode cX8_readAll 1 = .ok (.iconst 0, 1) := by decide +kernel
theorem dX8_readAll_2 : decode cX8_readAll 2 = .ok (.putfield 152, 3) := by decide +kernel
theorem dX8_readAll_5 : decode cX8_readAll 5 = .ok (.iload_n 1, 1) := by decide +kernel
theorem dX8_readAll_6 : decode cX8_readAll 6 = .ok (.ifCond .eq 8, 3) := by decide +kernel
theorem dX8_readAll_9 : decode cX8_readAll 9 = .ok (.bipush 7, 2) := by decide +kernel
theorem dX8_readAll_11 : decode cX8_readAll 11 = .ok (.goto 5, 3) := by decide +kernel
theorem dX8_readAll_14 : decode cX8_readAll 14 = .ok (.bipush 16, 2) := by decide +kernel
theorem dX8_readAll_16 : decode cX8_readAll 16 = .ok (.istore_n 2, 1) := by decide +kernel
theorem dX8_readAll_17 : decode cX8_readAll 17 = .ok (.iconst 0, 1) := by decide +kernel
theorem dX8_readAll_18 : decode cX8_readAll 18 = .ok (.istore_n 3, 1) := by decide +kernel
theorem dX8_readAll_19 : decode cX8_readAll 19 = .ok (.iload_n 3, 1) := by decide +kernel
theorem dX8_readAll_20 : decode cX8_readAll 20 = .ok (.iload_n 2, 1) := by decide +kernel
theorem dX8_readAll_21 : decode cX8_readAll 21 = .ok (.if_icmp .ge 84, 3) := by decide +kernel
theorem dX8_readAll_24 : decode cX8_readAll 24 = .ok (.iload_n 1, 1) := by decide +kernel
theorem dX8_readAll_25 : decode cX8_readAll 25 = .ok (.ifCond .eq 16, 3) := by decide +kernel
theorem dX8_readAll_28 : decode cX8_readAll 28 = .ok (.aload_n 0, 1) := by decide +kernel
theorem dX8_readAll_29 : decode cX8_readAll 29 = .ok (.iconst 4, 1) := by decide +kernel
theorem dX8_readAll_30 : decode cX8_readAll 30 = .ok (.iload_n 3, 1) := by decide +kernel
theorem dX8_readAll_31 : decode cX8_readAll 31 = .ok (.imul, 1) := by decide +kernel
theorem dX8_readAll_32 : decode cX8_readAll 32 = .ok (.invokevirtual 173, 3) := by decide +kernel
theorem dX8_readAll_35 : decode cX8_readAll 35 = .ok (.ifCond .eq 16, 3) := by decide +kernel
theorem dX8_readAll_38 : decode cX8_readAll 38 = .ok (.goto 15, 3) := by decide +kernel
theorem dX8_readAll_41 : decode cX8_readAll 41 = .ok (.aload_n 0, 1) := by decide +kernel
theorem dX8_readAll_42 : decode cX8_readAll 42 = .ok (.iconst 4, 1) := by decide +kernel
theorem dX8_readAll_43 : decode cX8_readAll 43 = .ok (.iload_n 3, 1) := by decide +kernel
theorem dX8_readAll_44 : decode cX8_readAll 44 = .ok (.imul, 1) := by decide +kernel
theorem dX8_readAll_45 : decode cX8_readAll 45 = .ok (.invokevirtual 176, 3) := by decide +kernel
theorem dX8_readAll_48 : decode cX8_readAll 48 = .ok (.ifCond .ne 5, 3) := by decide +kernel
theorem dX8_readAll_51 : decode cX8_readAll 51 = .ok (.iconst 0, 1) := by decide +kernel
theorem dX8_readAll_52 : decode cX8_readAll 52 = .ok (.ireturn, 1) := by decide +kernel
theorem dX8_readAll_53 : decode cX8_readAll 53 = .ok (.aload_n 0, 1) := by decide +kernel
theorem dX8_readAll_54 : decode cX8_readAll 54 = .ok (.iload_n 3, 1) := by decide +kernel
theorem dX8_readAll_55 : decode cX8_readAll 55 = .ok (.iconst 1, 1) := by decide +kernel
theorem dX8_readAll_56 : decode cX8_readAll 56 = .ok (.iadd, 1) := by decide +kernel
theorem dX8_readAll_57 : decode cX8_readAll 57 = .ok (.putfield 179, 3) := by decide +kernel
theorem dX8_readAll_60 : decode cX8_readAll 60 = .ok (.aload_n 0, 1) := by decide +kernel
theorem dX8_readAll_61 : decode cX8_readAll 61 = .ok (.invokevirtual 155, 3) := by decide +kernel
theorem dX8_readAll_64 : decode cX8_readAll 64 = .ok (.istore 4, 2) := by decide +kernel
theorem dX8_readAll_66 : decode cX8_readAll 66 = .ok (.iload 4, 2) := by decide +kernel
theorem dX8_readAll_68 : decode cX8_readAll 68 = .ok (.ifCond .ge 5, 3) := by decide +kernel
theorem dX8_readAll_71 : decode cX8_readAll 71 = .ok (.iconst 1, 1) := by decide +kernel
theorem dX8_readAll_72 : decode cX8_readAll 72 = .ok (.ireturn, 1) := by decide +kernel
theorem dX8_readAll_73 : decode cX8_readAll 73 = .ok (.iload 4, 2) := by decide +kernel
theorem dX8_readAll_75 : decode cX8_readAll 75 = .ok (.bipush 44, 2) := by decide +kernel
theorem dX8_readAll_77 : decode cX8_readAll 77 = .ok (.if_icmp .ne 10, 3) := by decide +kernel
theorem dX8_readAll_80 : decode cX8_readAll 80 = .ok (.iload_n 3, 1) := by decide +kernel
theorem dX8_readAll_81 : decode cX8_readAll 81 = .ok (.iload_n 2, 1) := by decide +kernel
theorem dX8_readAll_82 : decode cX8_readAll 82 = .ok (.iconst 1, 1) := by decide +kernel
theorem dX8_readAll_83 : decode cX8_readAll 83 = .ok (.isub, 1) := by decide +kernel
theorem dX8_readAll_84 : decode cX8_readAll 84 = .ok (.if_icmp .ne 5, 3) := by decide +kernel
theorem dX8_readAll_87 : decode cX8_readAll 87 = .ok (.iconst 0, 1) := by decide +kernel
theorem dX8_readAll_88 : decode cX8_readAll 88 = .ok (.ireturn, 1) := by decide +kernel
theorem dX8_readAll_89 : decode cX8_readAll 89 = .ok (.aload_n 0, 1) := by decide +kernel
theorem dX8_readAll_90 : decode cX8_readAll 90 = .ok (.dup, 1) := by decide +kernel
theorem dX8_readAll_91 : decode cX8_readAll 91 = .ok (.getfield 152, 3) := by decide +kernel
theorem dX8_readAll_94 : decode cX8_readAll 94 = .ok (.iconst 1, 1) := by decide +kernel
theorem dX8_readAll_95 : decode cX8_readAll 95 = .ok (.iadd, 1) := by decide +kernel
theorem dX8_readAll_96 : decode cX8_readAll 96 = .ok (.putfield 152, 3) := by decide +kernel
theorem dX8_readAll_99 : decode cX8_readAll 99 = .ok (.iinc 3 1, 3) := by decide +kernel
theorem dX8_readAll_102 : decode cX8_readAll 102 = .ok (.goto (-83), 3) := by decide +kernel
theorem dX8_readAll_105 : decode cX8_readAll 105 = .ok (.iconst 0, 1) := by decide +kernel
theorem dX8_readAll_106 : decode cX8_readAll 106 = .ok (.ireturn, 1) := by decide +kernel
theorem dX8_brides_0 : decode cX8_brides 0 = .ok (.aload_n 0, 1) := by decide +kernel
theorem dX8_brides_1 : decode cX8_brides 1 = .ok (.iconst 1, 1) := by decide +kernel
theorem dX8_brides_2 : decode cX8_brides 2 = .ok (.invokevirtual 182, 3) := by decide +kernel
theorem dX8_brides_5 : decode cX8_brides 5 = .ok (.istore_n 1, 1) := by decide +kernel
theorem dX8_brides_6 : decode cX8_brides 6 = .ok (.iload_n 1, 1) := by decide +kernel
theorem dX8_brides_7 : decode cX8_brides 7 = .ok (.ifCond .ne 8, 3) := by decide +kernel
theorem dX8_brides_10 : decode cX8_brides 10 = .ok (.aload_n 0, 1) := by decide +kernel
theorem dX8_brides_11 : decode cX8_brides 11 = .ok (.invokevirtual 155, 3) := by decide +kernel
theorem dX8_brides_14 : decode cX8_brides 14 = .ok (.pop, 1) := by decide +kernel
theorem dX8_brides_15 : decode cX8_brides 15 = .ok (.aload_n 0, 1) := by decide +kernel
theorem dX8_brides_16 : decode cX8_brides 16 = .ok (.iconst 0, 1) := by decide +kernel
theorem dX8_brides_17 : decode cX8_brides 17 = .ok (.putfield 149, 3) := by decide +kernel
theorem dX8_brides_20 : decode cX8_brides 20 = .ok (.iload_n 1, 1) := by decide +kernel
theorem dX8_brides_21 : decode cX8_brides 21 = .ok (.ifCond .ne 11, 3) := by decide +kernel
theorem dX8_brides_24 : decode cX8_brides 24 = .ok (.bipush (-20), 2) := by decide +kernel
theorem dX8_brides_26 : decode cX8_brides 26 = .ok (.aload_n 0, 1) := by decide +kernel
theorem dX8_brides_27 : decode cX8_brides 27 = .ok (.getfield 152, 3) := by decide +kernel
theorem dX8_brides_30 : decode cX8_brides 30 = .ok (.isub, 1) := by decide +kernel
theorem dX8_brides_31 : decode cX8_brides 31 = .ok (.ireturn, 1) := by decide +kernel
theorem dX8_brides_32 : decode cX8_brides 32 = .ok (.aload_n 0, 1) := by decide +kernel
theorem dX8_brides_33 : decode cX8_brides 33 = .ok (.aload_n 0, 1) := by decide +kernel
theorem dX8_brides_34 : decode cX8_brides 34 = .ok (.getfield 179, 3) := by decide +kernel
theorem dX8_brides_37 : decode cX8_brides 37 = .ok (.putfield 81, 3) := by decide +kernel
theorem dX8_brides_40 : decode cX8_brides 40 = .ok (.iconst 0, 1) := by decide +kernel
theorem dX8_brides_41 : decode cX8_brides 41 = .ok (.istore_n 2, 1) := by decide +kernel
theorem dX8_brides_42 : decode cX8_brides 42 = .ok (.iload_n 2, 1) := by decide +kernel
theorem dX8_brides_43 : decode cX8_brides 43 = .ok (.iconst 4, 1) := by decide +kernel
theorem dX8_brides_44 : decode cX8_brides 44 = .ok (.aload_n 0, 1) := by decide +kernel
theorem dX8_brides_45 : decode cX8_brides 45 = .ok (.getfield 81, 3) := by decide +kernel
theorem dX8_brides_48 : decode cX8_brides 48 = .ok (.imul, 1) := by decide +kernel
theorem dX8_brides_49 : decode cX8_brides 49 = .ok (.if_icmp .ge 21, 3) := by decide +kernel
theorem dX8_brides_52 : decode cX8_brides 52 = .ok (.aload_n 0, 1) := by decide +kernel
theorem dX8_brides_53 : decode cX8_brides 53 = .ok (.getfield 7, 3) := by decide +kernel
theorem dX8_brides_56 : decode cX8_brides 56 = .ok (.iload_n 2, 1) := by decide +kernel
theorem dX8_brides_57 : decode cX8_brides 57 = .ok (.aload_n 0, 1) := by decide +kernel
theorem dX8_brides_58 : decode cX8_brides 58 = .ok (.getfield 22, 3) := by decide +kernel
theorem dX8_brides_61 : decode cX8_brides 61 = .ok (.iload_n 2, 1) := by decide +kernel
theorem dX8_brides_62 : decode cX8_brides 62 = .ok (.iaload, 1) := by decide +kernel
theorem dX8_brides_63 : decode cX8_brides 63 = .ok (.iastore, 1) := by decide +kernel
theorem dX8_brides_64 : decode cX8_brides 64 = .ok (.iinc 2 1, 3) := by decide +kernel
theorem dX8_brides_67 : decode cX8_brides 67 = .ok (.goto (-25), 3) := by decide +kernel
theorem dX8_brides_70 : decode cX8_brides 70 = .ok (.aload_n 0, 1) := by decide +kernel
theorem dX8_brides_71 : decode cX8_brides 71 = .ok (.getfield 81, 3) := by decide +kernel
theorem dX8_brides_74 : decode cX8_brides 74 = .ok (.ireturn, 1) := by decide +kernel
theorem dX8_heap_0 : decode cX8_heap 0 = .ok (.aload_n 0, 1) := by decide +kernel
theorem dX8_heap_1 : decode cX8_heap 1 = .ok (.iconst 0, 1) := by decide +kernel
theorem dX8_heap_2 : decode cX8_heap 2 = .ok (.invokevirtual 182, 3) := by decide +kernel
theorem dX8_heap_5 : decode cX8_heap 5 = .ok (.istore_n 1, 1) := by decide +kernel
theorem dX8_heap_6 : decode cX8_heap 6 = .ok (.iload_n 1, 1) := by decide +kernel
theorem dX8_heap_7 : decode cX8_heap 7 = .ok (.ifCond .ne 8, 3) := by decide +kernel
theorem dX8_heap_10 : decode cX8_heap 10 = .ok (.aload_n 0, 1) := by decide +kernel
theorem dX8_heap_11 : decode cX8_heap 11 = .ok (.invokevirtual 155, 3) := by decide +kernel
theorem dX8_heap_14 : decode cX8_heap 14 = .ok (.pop, 1) := by decide +kernel
theorem dX8_heap_15 : decode cX8_heap 15 = .ok (.aload_n 0, 1) := by decide +kernel
theorem dX8_heap_16 : decode cX8_heap 16 = .ok (.iconst 0, 1) := by decide +kernel
theorem dX8_heap_17 : decode cX8_heap 17 = .ok (.putfield 149, 3) := by decide +kernel
theorem dX8_heap_20 : decode cX8_heap 20 = .ok (.iload_n 1, 1) := by decide +kernel
theorem dX8_heap_21 : decode cX8_heap 21 = .ok (.ifCond .ne 11, 3) := by decide +kernel
theorem dX8_heap_24 : decode cX8_heap 24 = .ok (.bipush (-20), 2) := by decide +kernel
theorem dX8_heap_26 : decode cX8_heap 26 = .ok (.aload_n 0, 1) := by decide +kernel
theorem dX8_heap_27 : decode cX8_heap 27 = .ok (.getfield 152, 3) := by decide +kernel
theorem dX8_heap_30 : decode cX8_heap 30 = .ok (.isub, 1) := by decide +kernel
theorem dX8_heap_31 : decode cX8_heap 31 = .ok (.ireturn, 1) := by decide +kernel
theorem dX8_heap_32 : decode cX8_heap 32 = .ok (.aload_n 0, 1) := by decide +kernel
theorem dX8_heap_33 : decode cX8_heap 33 = .ok (.iconst 0, 1) := by decide +kernel
theorem dX8_heap_34 : decode cX8_heap 34 = .ok (.putfield 89, 3) := by decide +kernel
theorem dX8_heap_37 : decode cX8_heap 37 = .ok (.iconst 0, 1) := by decide +kernel
theorem dX8_heap_38 : decode cX8_heap 38 = .ok (.istore_n 2, 1) := by decide +kernel
theorem dX8_heap_39 : decode cX8_heap 39 = .ok (.iload_n 2, 1) := by decide +kernel
theorem dX8_heap_40 : decode cX8_heap 40 = .ok (.aload_n 0, 1) := by decide +kernel
theorem dX8_heap_41 : decode cX8_heap 41 = .ok (.getfield 179, 3) := by decide +kernel
theorem dX8_heap_44 : decode cX8_heap 44 = .ok (.if_icmp .ge 41, 3) := by decide +kernel
theorem dX8_heap_47 : decode cX8_heap 47 = .ok (.aload_n 0, 1) := by decide +kernel
theorem dX8_heap_48 : decode cX8_heap 48 = .ok (.aload_n 0, 1) := by decide +kernel
theorem dX8_heap_49 : decode cX8_heap 49 = .ok (.getfield 22, 3) := by decide +kernel
theorem dX8_heap_52 : decode cX8_heap 52 = .ok (.iconst 4, 1) := by decide +kernel
theorem dX8_heap_53 : decode cX8_heap 53 = .ok (.iload_n 2, 1) := by decide +kernel
theorem dX8_heap_54 : decode cX8_heap 54 = .ok (.imul, 1) := by decide +kernel
theorem dX8_heap_55 : decode cX8_heap 55 = .ok (.iaload, 1) := by decide +kernel
theorem dX8_heap_56 : decode cX8_heap 56 = .ok (.aload_n 0, 1) := by decide +kernel
theorem dX8_heap_57 : decode cX8_heap 57 = .ok (.getfield 22, 3) := by decide +kernel
theorem dX8_heap_60 : decode cX8_heap 60 = .ok (.iconst 4, 1) := by decide +kernel
theorem dX8_heap_61 : decode cX8_heap 61 = .ok (.iload_n 2, 1) := by decide +kernel
theorem dX8_heap_62 : decode cX8_heap 62 = .ok (.imul, 1) := by decide +kernel
theorem dX8_heap_63 : decode cX8_heap 63 = .ok (.iconst 1, 1) := by decide +kernel
theorem dX8_heap_64 : decode cX8_heap 64 = .ok (.iadd, 1) := by decide +kernel
theorem dX8_heap_65 : decode cX8_heap 65 = .ok (.iaload, 1) := by decide +kernel
theorem dX8_heap_66 : decode cX8_heap 66 = .ok (.aload_n 0, 1) := by decide +kernel
theorem dX8_heap_67 : decode cX8_heap 67 = .ok (.getfield 22, 3) := by decide +kernel
theorem dX8_heap_70 : decode cX8_heap 70 = .ok (.iconst 4, 1) := by decide +kernel
theorem dX8_heap_71 : decode cX8_heap 71 = .ok (.iload_n 2, 1) := by decide +kernel
theorem dX8_heap_72 : decode cX8_heap 72 = .ok (.imul, 1) := by decide +kernel
theorem dX8_heap_73 : decode cX8_heap 73 = .ok (.iconst 2, 1) := by decide +kernel
theorem dX8_heap_74 : decode cX8_heap 74 = .ok (.iadd, 1) := by decide +kernel
theorem dX8_heap_75 : decode cX8_heap 75 = .ok (.iaload, 1) := by decide +kernel
theorem dX8_heap_76 : decode cX8_heap 76 = .ok (.invokevirtual 112, 3) := by decide +kernel
theorem dX8_heap_79 : decode cX8_heap 79 = .ok (.iinc 2 1, 3) := by decide +kernel
theorem dX8_heap_82 : decode cX8_heap 82 = .ok (.goto (-43), 3) := by decide +kernel
theorem dX8_heap_85 : decode cX8_heap 85 = .ok (.aload_n 0, 1) := by decide +kernel
theorem dX8_heap_86 : decode cX8_heap 86 = .ok (.getfield 89, 3) := by decide +kernel
theorem dX8_heap_89 : decode cX8_heap 89 = .ok (.ireturn, 1) := by decide +kernel
theorem dX8_findSide_0 : decode cX8_findSide 0 = .ok (.aload_n 0, 1) := by decide +kernel
theorem dX8_findSide_1 : decode cX8_findSide 1 = .ok (.iconst 0, 1) := by decide +kernel
theorem dX8_findSide_2 : decode cX8_findSide 2 = .ok (.putfield 186, 3) := by decide +kernel
theorem dX8_findSide_5 : decode cX8_findSide 5 = .ok (.iconst 0, 1) := by decide +kernel
theorem dX8_findSide_6 : decode cX8_findSide 6 = .ok (.istore_n 2, 1) := by decide +kernel
theorem dX8_findSide_7 : decode cX8_findSide 7 = .ok (.iload_n 2, 1) := by decide +kernel
theorem dX8_findSide_8 : decode cX8_findSide 8 = .ok (.aload_n 0, 1) := by decide +kernel
theorem dX8_findSide_9 : decode cX8_findSide 9 = .ok (.getfield 89, 3) := by decide +kernel
theorem dX8_findSide_12 : decode cX8_findSide 12 = .ok (.if_icmp .ge 54, 3) := by decide +kernel
theorem dX8_findSide_15 : decode cX8_findSide 15 = .ok (.aload_n 0, 1) := by decide +kernel
theorem dX8_findSide_16 : decode cX8_findSide 16 = .ok (.getfield 13, 3) := by decide +kernel
theorem dX8_findSide_19 : decode cX8_findSide 19 = .ok (.iconst 4, 1) := by decide +kernel
theorem dX8_findSide_20 : decode cX8_findSide 20 = .ok (.iload_n 2, 1) := by decide +kernel
theorem dX8_findSide_21 : decode cX8_findSide 21 = .ok (.imul, 1) := by decide +kernel
theorem dX8_findSide_22 : decode cX8_findSide 22 = .ok (.iaload, 1) := by decide +kernel
theorem dX8_findSide_23 : decode cX8_findSide 23 = .ok (.iload_n 1, 1) := by decide +kernel
theorem dX8_findSide_24 : decode cX8_findSide 24 = .ok (.if_icmp .ne 36, 3) := by decide +kernel
theorem dX8_findSide_27 : decode cX8_findSide 27 = .ok (.aload_n 0, 1) := by decide +kernel
theorem dX8_findSide_28 : decode cX8_findSide 28 = .ok (.getfield 13, 3) := by decide +kernel
theorem dX8_findSide_31 : decode cX8_findSide 31 = .ok (.iconst 4, 1) := by decide +kernel
theorem dX8_findSide_32 : decode cX8_findSide 32 = .ok (.iload_n 2, 1) := by decide +kernel
theorem dX8_findSide_33 : decode cX8_findSide 33 = .ok (.imul, 1) := by decide +kernel
theorem dX8_findSide_34 : decode cX8_findSide 34 = .ok (.iconst 3, 1) := by decide +kernel
theorem dX8_findSide_35 : decode cX8_findSide 35 = .ok (.iadd, 1) := by decide +kernel
theorem dX8_findSide_36 : decode cX8_findSide 36 = .ok (.iaload, 1) := by decide +kernel
theorem dX8_findSide_37 : decode cX8_findSide 37 = .ok (.ifCond .ne 23, 3) := by decide +kernel
theorem dX8_findSide_40 : decode cX8_findSide 40 = .ok (.aload_n 0, 1) := by decide +kernel
theorem dX8_findSide_41 : decode cX8_findSide 41 = .ok (.getfield 25, 3) := by decide +kernel
theorem dX8_findSide_44 : decode cX8_findSide 44 = .ok (.aload_n 0, 1) := by decide +kernel
theorem dX8_findSide_45 : decode cX8_findSide 45 = .ok (.getfield 186, 3) := by decide +kernel
theorem dX8_findSide_48 : decode cX8_findSide 48 = .ok (.iload_n 2, 1) := by decide +kernel
theorem dX8_findSide_49 : decode cX8_findSide 49 = .ok (.iastore, 1) := by decide +kernel
theorem dX8_findSide_50 : decode cX8_findSide 50 = .ok (.aload_n 0, 1) := by decide +kernel
theorem dX8_findSide_51 : decode cX8_findSide 51 = .ok (.dup, 1) := by decide +kernel
theorem dX8_findSide_52 : decode cX8_findSide 52 = .ok (.getfield 186, 3) := by decide +kernel
theorem dX8_findSide_55 : decode cX8_findSide 55 = .ok (.iconst 1, 1) := by decide +kernel
theorem dX8_findSide_56 : decode cX8_findSide 56 = .ok (.iadd, 1) := by decide +kernel
theorem dX8_findSide_57 : decode cX8_findSide 57 = .ok (.putfield 186, 3) := by decide +kernel
theorem dX8_findSide_60 : decode cX8_findSide 60 = .ok (.iinc 2 1, 3) := by decide +kernel
theorem dX8_findSide_63 : decode cX8_findSide 63 = .ok (.goto (-56), 3) := by decide +kernel
theorem dX8_findSide_66 : decode cX8_findSide 66 = .ok (.iconst 0, 1) := by decide +kernel
theorem dX8_findSide_67 : decode cX8_findSide 67 = .ok (.istore_n 2, 1) := by decide +kernel
theorem dX8_findSide_68 : decode cX8_findSide 68 = .ok (.iload_n 2, 1) := by decide +kernel
theorem dX8_findSide_69 : decode cX8_findSide 69 = .ok (.aload_n 0, 1) := by decide +kernel
theorem dX8_findSide_70 : decode cX8_findSide 70 = .ok (.getfield 81, 3) := by decide +kernel
theorem dX8_findSide_73 : decode cX8_findSide 73 = .ok (.if_icmp .ge 57, 3) := by decide +kernel
theorem dX8_findSide_76 : decode cX8_findSide 76 = .ok (.iconst 0, 1) := by decide +kernel
theorem dX8_findSide_77 : decode cX8_findSide 77 = .ok (.istore_n 3, 1) := by decide +kernel
theorem dX8_findSide_78 : decode cX8_findSide 78 = .ok (.iload_n 3, 1) := by decide +kernel
theorem dX8_findSide_79 : decode cX8_findSide 79 = .ok (.aload_n 0, 1) := by decide +kernel
theorem dX8_findSide_80 : decode cX8_findSide 80 = .ok (.getfield 186, 3) := by decide +kernel
theorem dX8_findSide_83 : decode cX8_findSide 83 = .ok (.if_icmp .ge 41, 3) := by decide +kernel
theorem dX8_findSide_86 : decode cX8_findSide 86 = .ok (.aload_n 0, 1) := by decide +kernel
theorem dX8_findSide_87 : decode cX8_findSide 87 = .ok (.getfield 28, 3) := by decide +kernel
theorem dX8_findSide_90 : decode cX8_findSide 90 = .ok (.bipush 16, 2) := by decide +kernel
theorem dX8_findSide_92 : decode cX8_findSide 92 = .ok (.iload_n 2, 1) := by decide +kernel
theorem dX8_findSide_93 : decode cX8_findSide 93 = .ok (.imul, 1) := by decide +kernel
theorem dX8_findSide_94 : decode cX8_findSide 94 = .ok (.iload_n 3, 1) := by decide +kernel
theorem dX8_findSide_95 : decode cX8_findSide 95 = .ok (.iadd, 1) := by decide +kernel
theorem dX8_findSide_96 : decode cX8_findSide 96 = .ok (.aload_n 0, 1) := by decide +kernel
theorem dX8_findSide_97 : decode cX8_findSide 97 = .ok (.aload_n 0, 1) := by decide +kernel
theorem dX8_findSide_98 : decode cX8_findSide 98 = .ok (.getfield 25, 3) := by decide +kernel
theorem dX8_findSide_101 : decode cX8_findSide 101 = .ok (.iload_n 3, 1) := by decide +kernel
theorem dX8_findSide_102 : decode cX8_findSide 102 = .ok (.iaload, 1) := by decide +kernel
theorem dX8_findSide_103 : decode cX8_findSide 103 = .ok (.iload_n 2, 1) := by decide +kernel
theorem dX8_findSide_104 : decode cX8_findSide 104 = .ok (.aload_n 0, 1) := by decide +kernel
theorem dX8_findSide_105 : decode cX8_findSide 105 = .ok (.getfield 7, 3) := by decide +kernel
theorem dX8_findSide_108 : decode cX8_findSide 108 = .ok (.iconst 4, 1) := by decide +kernel
theorem dX8_findSide_109 : decode cX8_findSide 109 = .ok (.iload_n 2, 1) := by decide +kernel
theorem dX8_findSide_110 : decode cX8_findSide 110 = .ok (.imul, 1) := by decide +kernel
theorem dX8_findSide_111 : decode cX8_findSide 111 = .ok (.iconst 3, 1) := by decide +kernel
theorem dX8_findSide_112 : decode cX8_findSide 112 = .ok (.iadd, 1) := by decide +kernel
theorem dX8_findSide_113 : decode cX8_findSide 113 = .ok (.iaload, 1) := by decide +kernel
theorem dX8_findSide_114 : decode cX8_findSide 114 = .ok (.invokevirtual 138, 3) := by decide +kernel
theorem dX8_findSide_117 : decode cX8_findSide 117 = .ok (.iastore, 1) := by decide +kernel
theorem dX8_findSide_118 : decode cX8_findSide 118 = .ok (.iinc 3 1, 3) := by decide +kernel
theorem dX8_findSide_121 : decode cX8_findSide 121 = .ok (.goto (-43), 3) := by decide +kernel
theorem dX8_findSide_124 : decode cX8_findSide 124 = .ok (.iinc 2 1, 3) := by decide +kernel
theorem dX8_findSide_127 : decode cX8_findSide 127 = .ok (.goto (-59), 3) := by decide +kernel
theorem dX8_findSide_130 : decode cX8_findSide 130 = .ok (.return_, 1) := by decide +kernel
theorem dX8_ones_0 : decode cX8_ones 0 = .ok (.iconst 0, 1) := by decide +kernel
theorem dX8_ones_1 : decode cX8_ones 1 = .ok (.istore_n 1, 1) := by decide +kernel
theorem dX8_ones_2 : decode cX8_ones 2 = .ok (.iload_n 0, 1) := by decide +kernel
theorem dX8_ones_3 : decode cX8_ones 3 = .ok (.istore_n 2, 1) := by decide +kernel
theorem dX8_ones_4 : decode cX8_ones 4 = .ok (.iload_n 2, 1) := by decide +kernel
theorem dX8_ones_5 : decode cX8_ones 5 = .ok (.ifCond .eq 15, 3) := by decide +kernel
theorem dX8_ones_8 : decode cX8_ones 8 = .ok (.iinc 1 1, 3) := by decide +kernel
theorem dX8_ones_11 : decode cX8_ones 11 = .ok (.iload_n 2, 1) := by decide +kernel
theorem dX8_ones_12 : decode cX8_ones 12 = .ok (.iload_n 2, 1) := by decide +kernel
theorem dX8_ones_13 : decode cX8_ones 13 = .ok (.iconst 1, 1) := by decide +kernel
theorem dX8_ones_14 : decode cX8_ones 14 = .ok (.isub, 1) := by decide +kernel
theorem dX8_ones_15 : decode cX8_ones 15 = .ok (.iand, 1) := by decide +kernel
theorem dX8_ones_16 : decode cX8_ones 16 = .ok (.istore_n 2, 1) := by decide +kernel
theorem dX8_ones_17 : decode cX8_ones 17 = .ok (.goto (-13), 3) := by decide +kernel
theorem dX8_ones_20 : decode cX8_ones 20 = .ok (.iload_n 1, 1) := by decide +kernel
theorem dX8_ones_21 : decode cX8_ones 21 = .ok (.ireturn, 1) := by decide +kernel
theorem dX8_findLeast_0 : decode cX8_findLeast 0 = .ok (.iconst 1, 1) := by decide +kernel
theorem dX8_findLeast_1 : decode cX8_findLeast 1 = .ok (.aload_n 0, 1) := by decide +kernel
theorem dX8_findLeast_2 : decode cX8_findLeast 2 = .ok (.getfield 186, 3) := by decide +kernel
theorem dX8_findLeast_5 : decode cX8_findLeast 5 = .ok (.ishl, 1) := by decide +kernel
theorem dX8_findLeast_6 : decode cX8_findLeast 6 = .ok (.iconst 1, 1) := by decide +kernel
theorem dX8_findLeast_7 : decode cX8_findLeast 7 = .ok (.isub, 1) := by decide +kernel
theorem dX8_findLeast_8 : decode cX8_findLeast 8 = .ok (.istore_n 1, 1) := by decide +kernel
theorem dX8_findLeast_9 : decode cX8_findLeast 9 = .ok (.iload_n 1, 1) := by decide +kernel
theorem dX8_findLeast_10 : decode cX8_findLeast 10 = .ok (.ifCond .lt 132, 3) := by decide +kernel
theorem dX8_findLeast_13 : decode cX8_findLeast 13 = .ok (.iload_n 1, 1) := by decide +kernel
theorem dX8_findLeast_14 : decode cX8_findLeast 14 = .ok (.invokestatic 189, 3) := by decide +kernel
theorem dX8_findLeast_17 : decode cX8_findLeast 17 = .ok (.istore_n 2, 1) := by decide +kernel
theorem dX8_findLeast_18 : decode cX8_findLeast 18 = .ok (.aload_n 0, 1) := by decide +kernel
theorem dX8_findLeast_19 : decode cX8_findLeast 19 = .ok (.getfield 32, 3) := by decide +kernel
theorem dX8_findLeast_22 : decode cX8_findLeast 22 = .ok (.iload_n 1, 1) := by decide +kernel
theorem dX8_findLeast_23 : decode cX8_findLeast 23 = .ok (.iload_n 2, 1) := by decide +kernel
theorem dX8_findLeast_24 : decode cX8_findLeast 24 = .ok (.aload_n 0, 1) := by decide +kernel
theorem dX8_findLeast_25 : decode cX8_findLeast 25 = .ok (.getfield 81, 3) := by decide +kernel
theorem dX8_findLeast_28 : decode cX8_findLeast 28 = .ok (.if_icmp .ne 7, 3) := by decide +kernel
theorem dX8_findLeast_31 : decode cX8_findLeast 31 = .ok (.iconst 0, 1) := by decide +kernel
theorem dX8_findLeast_32 : decode cX8_findLeast 32 = .ok (.goto 5, 3) := by decide +kernel
theorem dX8_findLeast_35 : decode cX8_findLeast 35 = .ok (.ldc 192, 2) := by decide +kernel
theorem dX8_findLeast_37 : decode cX8_findLeast 37 = .ok (.iastore, 1) := by decide +kernel
theorem dX8_findLeast_38 : decode cX8_findLeast 38 = .ok (.iconst 0, 1) := by decide +kernel
theorem dX8_findLeast_39 : decode cX8_findLeast 39 = .ok (.istore_n 3, 1) := by decide +kernel
theorem dX8_findLeast_40 : decode cX8_findLeast 40 = .ok (.iload_n 3, 1) := by decide +kernel
theorem dX8_findLeast_41 : decode cX8_findLeast 41 = .ok (.aload_n 0, 1) := by decide +kernel
theorem dX8_findLeast_42 : decode cX8_findLeast 42 = .ok (.getfield 186, 3) := by decide +kernel
theorem dX8_findLeast_45 : decode cX8_findLeast 45 = .ok (.if_icmp .ge 91, 3) := by decide +kernel
theorem dX8_findLeast_48 : decode cX8_findLeast 48 = .ok (.iload_n 2, 1) := by decide +kernel
theorem dX8_findLeast_49 : decode cX8_findLeast 49 = .ok (.aload_n 0, 1) := by decide +kernel
theorem dX8_findLeast_50 : decode cX8_findLeast 50 = .ok (.getfield 81, 3) := by decide +kernel
theorem dX8_findLeast_53 : decode cX8_findLeast 53 = .ok (.if_icmp .ge 83, 3) := by decide +kernel
theorem dX8_findLeast_56 : decode cX8_findLeast 56 = .ok (.iload_n 1, 1) := by decide +kernel
theorem dX8_findLeast_57 : decode cX8_findLeast 57 = .ok (.iload_n 3, 1) := by decide +kernel
theorem dX8_findLeast_58 : decode cX8_findLeast 58 = .ok (.ishr, 1) := by decide +kernel
theorem dX8_findLeast_59 : decode cX8_findLeast 59 = .ok (.iconst 1, 1) := by decide +kernel
theorem dX8_findLeast_60 : decode cX8_findLeast 60 = .ok (.iand, 1) := by decide +kernel
theorem dX8_findLeast_61 : decode cX8_findLeast 61 = .ok (.ifCond .ne 69, 3) := by decide +kernel
theorem dX8_findLeast_64 : decode cX8_findLeast 64 = .ok (.aload_n 0, 1) := by decide +kernel
theorem dX8_findLeast_65 : decode cX8_findLeast 65 = .ok (.getfield 28, 3) := by decide +kernel
theorem dX8_findLeast_68 : decode cX8_findLeast 68 = .ok (.bipush 16, 2) := by decide +kernel
theorem dX8_findLeast_70 : decode cX8_findLeast 70 = .ok (.iload_n 2, 1) := by decide +kernel
theorem dX8_findLeast_71 : decode cX8_findLeast 71 = .ok (.imul, 1) := by decide +kernel
theorem dX8_findLeast_72 : decode cX8_findLeast 72 = .ok (.iload_n 3, 1) := by decide +kernel
theorem dX8_findLeast_73 : decode cX8_findLeast 73 = .ok (.iadd, 1) := by decide +kernel
theorem dX8_findLeast_74 : decode cX8_findLeast 74 = .ok (.iaload, 1) := by decide +kernel
theorem dX8_findLeast_75 : decode cX8_findLeast 75 = .ok (.ifCond .lt 55, 3) := by decide +kernel
theorem dX8_findLeast_78 : decode cX8_findLeast 78 = .ok (.aload_n 0, 1) := by decide +kernel
theorem dX8_findLeast_79 : decode cX8_findLeast 79 = .ok (.getfield 28, 3) := by decide +kernel
theorem dX8_findLeast_82 : decode cX8_findLeast 82 = .ok (.bipush 16, 2) := by decide +kernel
theorem dX8_findLeast_84 : decode cX8_findLeast 84 = .ok (.iload_n 2, 1) := by decide +kernel
theorem dX8_findLeast_85 : decode cX8_findLeast 85 = .ok (.imul, 1) := by decide +kernel
theorem dX8_findLeast_86 : decode cX8_findLeast 86 = .ok (.iload_n 3, 1) := by decide +kernel
theorem dX8_findLeast_87 : decode cX8_findLeast 87 = .ok (.iadd, 1) := by decide +kernel
theorem dX8_findLeast_88 : decode cX8_findLeast 88 = .ok (.iaload, 1) := by decide +kernel
theorem dX8_findLeast_89 : decode cX8_findLeast 89 = .ok (.aload_n 0, 1) := by decide +kernel
theorem dX8_findLeast_90 : decode cX8_findLeast 90 = .ok (.getfield 32, 3) := by decide +kernel
theorem dX8_findLeast_93 : decode cX8_findLeast 93 = .ok (.iload_n 1, 1) := by decide +kernel
theorem dX8_findLeast_94 : decode cX8_findLeast 94 = .ok (.iconst 1, 1) := by decide +kernel
theorem dX8_findLeast_95 : decode cX8_findLeast 95 = .ok (.iload_n 3, 1) := by decide +kernel
theorem dX8_findLeast_96 : decode cX8_findLeast 96 = .ok (.ishl, 1) := by decide +kernel
theorem dX8_findLeast_97 : decode cX8_findLeast 97 = .ok (.ior, 1) := by decide +kernel
theorem dX8_findLeast_98 : decode cX8_findLeast 98 = .ok (.iaload, 1) := by decide +kernel
theorem dX8_findLeast_99 : decode cX8_findLeast 99 = .ok (.iadd, 1) := by decide +kernel
theorem dX8_findLeast_100 : decode cX8_findLeast 100 = .ok (.istore 4, 2) := by decide +kernel
theorem dX8_findLeast_102 : decode cX8_findLeast 102 = .ok (.aload_n 0, 1) := by decide +kernel
theorem dX8_findLeast_103 : decode cX8_findLeast 103 = .ok (.getfield 32, 3) := by decide +kernel
theorem dX8_findLeast_106 : decode cX8_findLeast 106 = .ok (.iload_n 1, 1) := by decide +kernel
theorem dX8_findLeast_107 : decode cX8_findLeast 107 = .ok (.iload 4, 2) := by decide +kernel
theorem dX8_findLeast_109 : decode cX8_findLeast 109 = .ok (.aload_n 0, 1) := by decide +kernel
theorem dX8_findLeast_110 : decode cX8_findLeast 110 = .ok (.getfield 32, 3) := by decide +kernel
theorem dX8_findLeast_113 : decode cX8_findLeast 113 = .ok (.iload_n 1, 1) := by decide +kernel
theorem dX8_findLeast_114 : decode cX8_findLeast 114 = .ok (.iaload, 1) := by decide +kernel
theorem dX8_findLeast_115 : decode cX8_findLeast 115 = .ok (.if_icmp .ge 8, 3) := by decide +kernel
theorem dX8_findLeast_118 : decode cX8_findLeast 118 = .ok (.iload 4, 2) := by decide +kernel
theorem dX8_findLeast_120 : decode cX8_findLeast 120 = .ok (.goto 9, 3) := by decide +kernel
theorem dX8_findLeast_123 : decode cX8_findLeast 123 = .ok (.aload_n 0, 1) := by decide +kernel
theorem dX8_findLeast_124 : decode cX8_findLeast 124 = .ok (.getfield 32, 3) := by decide +kernel
theorem dX8_findLeast_127 : decode cX8_findLeast 127 = .ok (.iload_n 1, 1) := by decide +kernel
theorem dX8_findLeast_128 : decode cX8_findLeast 128 = .ok (.iaload, 1) := by decide +kernel
theorem dX8_findLeast_129 : decode cX8_findLeast 129 = .ok (.iastore, 1) := by decide +kernel
theorem dX8_findLeast_130 : decode cX8_findLeast 130 = .ok (.iinc 3 1, 3) := by decide +kernel
theorem dX8_findLeast_133 : decode cX8_findLeast 133 = .ok (.goto (-93), 3) := by decide +kernel
theorem dX8_findLeast_136 : decode cX8_findLeast 136 = .ok (.iinc 1 (-1), 3) := by decide +kernel
theorem dX8_findLeast_139 : decode cX8_findLeast 139 = .ok (.goto (-130), 3) := by decide +kernel
theorem dX8_findLeast_142 : decode cX8_findLeast 142 = .ok (.aload_n 0, 1) := by decide +kernel
theorem dX8_findLeast_143 : decode cX8_findLeast 143 = .ok (.getfield 32, 3) := by decide +kernel
theorem dX8_findLeast_146 : decode cX8_findLeast 146 = .ok (.iconst 0, 1) := by decide +kernel
theorem dX8_findLeast_147 : decode cX8_findLeast 147 = .ok (.iaload, 1) := by decide +kernel
theorem dX8_findLeast_148 : decode cX8_findLeast 148 = .ok (.ireturn, 1) := by decide +kernel
theorem dX8_findWay_0 : decode cX8_findWay 0 = .ok (.aload_n 0, 1) := by decide +kernel
theorem dX8_findWay_1 : decode cX8_findWay 1 = .ok (.iload_n 1, 1) := by decide +kernel
theorem dX8_findWay_2 : decode cX8_findWay 2 = .ok (.invokevirtual 193, 3) := by decide +kernel
theorem dX8_findWay_5 : decode cX8_findWay 5 = .ok (.aload_n 0, 1) := by decide +kernel
theorem dX8_findWay_6 : decode cX8_findWay 6 = .ok (.invokevirtual 197, 3) := by decide +kernel
theorem dX8_findWay_9 : decode cX8_findWay 9 = .ok (.istore_n 2, 1) := by decide +kernel
theorem dX8_findWay_10 : decode cX8_findWay 10 = .ok (.iconst 0, 1) := by decide +kernel
theorem dX8_findWay_11 : decode cX8_findWay 11 = .ok (.istore_n 3, 1) := by decide +kernel
theorem dX8_findWay_12 : decode cX8_findWay 12 = .ok (.iconst 0, 1) := by decide +kernel
theorem dX8_findWay_13 : decode cX8_findWay 13 = .ok (.istore 4, 2) := by decide +kernel
theorem dX8_findWay_15 : decode cX8_findWay 15 = .ok (.iload 4, 2) := by decide +kernel
theorem dX8_findWay_17 : decode cX8_findWay 17 = .ok (.aload_n 0, 1) := by decide +kernel
theorem dX8_findWay_18 : decode cX8_findWay 18 = .ok (.getfield 81, 3) := by decide +kernel
theorem dX8_findWay_21 : decode cX8_findWay 21 = .ok (.if_icmp .ge 105, 3) := by decide +kernel
theorem dX8_findWay_24 : decode cX8_findWay 24 = .ok (.iload_n 2, 1) := by decide +kernel
theorem dX8_findWay_25 : decode cX8_findWay 25 = .ok (.ldc 192, 2) := by decide +kernel
theorem dX8_findWay_27 : decode cX8_findWay 27 = .ok (.if_icmp .ge 99, 3) := by decide +kernel
theorem dX8_findWay_30 : decode cX8_findWay 30 = .ok (.iconst 0, 1) := by decide +kernel
theorem dX8_findWay_31 : decode cX8_findWay 31 = .ok (.istore 5, 2) := by decide +kernel
theorem dX8_findWay_33 : decode cX8_findWay 33 = .ok (.iload_n 3, 1) := by decide +kernel
theorem dX8_findWay_34 : decode cX8_findWay 34 = .ok (.iload 5, 2) := by decide +kernel
theorem dX8_findWay_36 : decode cX8_findWay 36 = .ok (.ishr, 1) := by decide +kernel
theorem dX8_findWay_37 : decode cX8_findWay 37 = .ok (.iconst 1, 1) := by decide +kernel
theorem dX8_findWay_38 : decode cX8_findWay 38 = .ok (.iand, 1) := by decide +kernel
theorem dX8_findWay_39 : decode cX8_findWay 39 = .ok (.iconst 1, 1) := by decide +kernel
theorem dX8_findWay_40 : decode cX8_findWay 40 = .ok (.if_icmp .eq 53, 3) := by decide +kernel
theorem dX8_findWay_43 : decode cX8_findWay 43 = .ok (.aload_n 0, 1) := by decide +kernel
theorem dX8_findWay_44 : decode cX8_findWay 44 = .ok (.getfield 28, 3) := by decide +kernel
theorem dX8_findWay_47 : decode cX8_findWay 47 = .ok (.bipush 16, 2) := by decide +kernel
theorem dX8_findWay_49 : decode cX8_findWay 49 = .ok (.iload 4, 2) := by decide +kernel
theorem dX8_findWay_51 : decode cX8_findWay 51 = .ok (.imul, 1) := by decide +kernel
theorem dX8_findWay_52 : decode cX8_findWay 52 = .ok (.iload 5, 2) := by decide +kernel
theorem dX8_findWay_54 : decode cX8_findWay 54 = .ok (.iadd, 1) := by decide +kernel
theorem dX8_findWay_55 : decode cX8_findWay 55 = .ok (.iaload, 1) := by decide +kernel
theorem dX8_findWay_56 : decode cX8_findWay 56 = .ok (.ifCond .lt 37, 3) := by decide +kernel
theorem dX8_findWay_59 : decode cX8_findWay 59 = .ok (.aload_n 0, 1) := by decide +kernel
theorem dX8_findWay_60 : decode cX8_findWay 60 = .ok (.getfield 28, 3) := by decide +kernel
theorem dX8_findWay_63 : decode cX8_findWay 63 = .ok (.bipush 16, 2) := by decide +kernel
theorem dX8_findWay_65 : decode cX8_findWay 65 = .ok (.iload 4, 2) := by decide +kernel
theorem dX8_findWay_67 : decode cX8_findWay 67 = .ok (.imul, 1) := by decide +kernel
theorem dX8_findWay_68 : decode cX8_findWay 68 = .ok (.iload 5, 2) := by decide +kernel
theorem dX8_findWay_70 : decode cX8_findWay 70 = .ok (.iadd, 1) := by decide +kernel
theorem dX8_findWay_71 : decode cX8_findWay 71 = .ok (.iaload, 1) := by decide +kernel
theorem dX8_findWay_72 : decode cX8_findWay 72 = .ok (.aload_n 0, 1) := by decide +kernel
theorem dX8_findWay_73 : decode cX8_findWay 73 = .ok (.getfield 32, 3) := by decide +kernel
theorem dX8_findWay_76 : decode cX8_findWay 76 = .ok (.iload_n 3, 1) := by decide +kernel
theorem dX8_findWay_77 : decode cX8_findWay 77 = .ok (.iconst 1, 1) := by decide +kernel
theorem dX8_findWay_78 : decode cX8_findWay 78 = .ok (.iload 5, 2) := by decide +kernel
theorem dX8_findWay_80 : decode cX8_findWay 80 = .ok (.ishl, 1) := by decide +kernel
theorem dX8_findWay_81 : decode cX8_findWay 81 = .ok (.ior, 1) := by decide +kernel
theorem dX8_findWay_82 : decode cX8_findWay 82 = .ok (.iaload, 1) := by decide +kernel
theorem dX8_findWay_83 : decode cX8_findWay 83 = .ok (.iadd, 1) := by decide +kernel
theorem dX8_findWay_84 : decode cX8_findWay 84 = .ok (.aload_n 0, 1) := by decide +kernel
theorem dX8_findWay_85 : decode cX8_findWay 85 = .ok (.getfield 32, 3) := by decide +kernel
theorem dX8_findWay_88 : decode cX8_findWay 88 = .ok (.iload_n 3, 1) := by decide +kernel
theorem dX8_findWay_89 : decode cX8_findWay 89 = .ok (.iaload, 1) := by decide +kernel
theorem dX8_findWay_90 : decode cX8_findWay 90 = .ok (.if_icmp .eq 9, 3) := by decide +kernel
theorem dX8_findWay_93 : decode cX8_findWay 93 = .ok (.iinc 5 1, 3) := by decide +kernel
theorem dX8_findWay_96 : decode cX8_findWay 96 = .ok (.goto (-63), 3) := by decide +kernel
theorem dX8_findWay_99 : decode cX8_findWay 99 = .ok (.aload_n 0, 1) := by decide +kernel
theorem dX8_findWay_100 : decode cX8_findWay 100 = .ok (.getfield 35, 3) := by decide +kernel
theorem dX8_findWay_103 : decode cX8_findWay 103 = .ok (.iload 4, 2) := by decide +kernel
theorem dX8_findWay_105 : decode cX8_findWay 105 = .ok (.aload_n 0, 1) := by decide +kernel
theorem dX8_findWay_106 : decode cX8_findWay 106 = .ok (.getfield 25, 3) := by decide +kernel
theorem dX8_findWay_109 : decode cX8_findWay 109 = .ok (.iload 5, 2) := by decide +kernel
theorem dX8_findWay_111 : decode cX8_findWay 111 = .ok (.iaload, 1) := by decide +kernel
theorem dX8_findWay_112 : decode cX8_findWay 112 = .ok (.iastore, 1) := by decide +kernel
theorem dX8_findWay_113 : decode cX8_findWay 113 = .ok (.iload_n 3, 1) := by decide +kernel
theorem dX8_findWay_114 : decode cX8_findWay 114 = .ok (.iconst 1, 1) := by decide +kernel
theorem dX8_findWay_115 : decode cX8_findWay 115 = .ok (.iload 5, 2) := by decide +kernel
theorem dX8_findWay_117 : decode cX8_findWay 117 = .ok (.ishl, 1) := by decide +kernel
theorem dX8_findWay_118 : decode cX8_findWay 118 = .ok (.ior, 1) := by decide +kernel
theorem dX8_findWay_119 : decode cX8_findWay 119 = .ok (.istore_n 3, 1) := by decide +kernel
theorem dX8_findWay_120 : decode cX8_findWay 120 = .ok (.iinc 4 1, 3) := by decide +kernel
theorem dX8_findWay_123 : decode cX8_findWay 123 = .ok (.goto (-108), 3) := by decide +kernel
theorem dX8_findWay_126 : decode cX8_findWay 126 = .ok (.iload_n 2, 1) := by decide +kernel
theorem dX8_findWay_127 : decode cX8_findWay 127 = .ok (.ireturn, 1) := by decide +kernel
theorem dX8_shod_0 : decode cX8_shod 0 = .ok (.iload_n 1, 1) := by decide +kernel
theorem dX8_shod_1 : decode cX8_shod 1 = .ok (.i2l, 1) := by decide +kernel
theorem dX8_shod_2 : decode cX8_shod 2 = .ok (.lconst 0, 1) := by decide +kernel
theorem dX8_shod_3 : decode cX8_shod 3 = .ok (.lconst 1, 1) := by decide +kernel
theorem dX8_shod_4 : decode cX8_shod 4 = .ok (.invokestatic 85, 3) := by decide +kernel
theorem dX8_shod_7 : decode cX8_shod 7 = .ok (.ifCond .eq 21, 3) := by decide +kernel
theorem dX8_shod_10 : decode cX8_shod 10 = .ok (.iload_n 2, 1) := by decide +kernel
theorem dX8_shod_11 : decode cX8_shod 11 = .ok (.i2l, 1) := by decide +kernel
theorem dX8_shod_12 : decode cX8_shod 12 = .ok (.ldc2_w 200, 3) := by decide +kernel
theorem dX8_shod_15 : decode cX8_shod 15 = .ok (.aload_n 0, 1) := by decide +kernel
theorem dX8_shod_16 : decode cX8_shod 16 = .ok (.getfield 81, 3) := by decide +kernel
theorem dX8_shod_19 : decode cX8_shod 19 = .ok (.iconst 1, 1) := by decide +kernel
theorem dX8_shod_20 : decode cX8_shod 20 = .ok (.isub, 1) := by decide +kernel
theorem dX8_shod_21 : decode cX8_shod 21 = .ok (.i2l, 1) := by decide +kernel
theorem dX8_shod_22 : decode cX8_shod 22 = .ok (.invokestatic 85, 3) := by decide +kernel
theorem dX8_shod_25 : decode cX8_shod 25 = .ok (.ifCond .ne 5, 3) := by decide +kernel
theorem dX8_shod_28 : decode cX8_shod 28 = .ok (.iconst (-1), 1) := by decide +kernel
theorem dX8_shod_29 : decode cX8_shod 29 = .ok (.ireturn, 1) := by decide +kernel
theorem dX8_shod_30 : decode cX8_shod 30 = .ok (.aload_n 0, 1) := by decide +kernel
theorem dX8_shod_31 : decode cX8_shod 31 = .ok (.iload_n 1, 1) := by decide +kernel
theorem dX8_shod_32 : decode cX8_shod 32 = .ok (.invokevirtual 202, 3) := by decide +kernel
theorem dX8_shod_35 : decode cX8_shod 35 = .ok (.istore_n 3, 1) := by decide +kernel
theorem dX8_shod_36 : decode cX8_shod 36 = .ok (.iload_n 3, 1) := by decide +kernel
theorem dX8_shod_37 : decode cX8_shod 37 = .ok (.ldc 192, 2) := by decide +kernel
theorem dX8_shod_39 : decode cX8_shod 39 = .ok (.if_icmp .lt 8, 3) := by decide +kernel
theorem dX8_shod_42 : decode cX8_shod 42 = .ok (.bipush (-4), 2) := by decide +kernel
theorem dX8_shod_44 : decode cX8_shod 44 = .ok (.goto 17, 3) := by decide +kernel
theorem dX8_shod_47 : decode cX8_shod 47 = .ok (.iload_n 2, 1) := by decide +kernel
theorem dX8_shod_48 : decode cX8_shod 48 = .ok (.ifCond .ge 7, 3) := by decide +kernel
theorem dX8_shod_51 : decode cX8_shod 51 = .ok (.iload_n 3, 1) := by decide +kernel
theorem dX8_shod_52 : decode cX8_shod 52 = .ok (.goto 9, 3) := by decide +kernel
theorem dX8_shod_55 : decode cX8_shod 55 = .ok (.aload_n 0, 1) := by decide +kernel
theorem dX8_shod_56 : decode cX8_shod 56 = .ok (.getfield 35, 3) := by decide +kernel
theorem dX8_shod_59 : decode cX8_shod 59 = .ok (.iload_n 2, 1) := by decide +kernel
theorem dX8_shod_60 : decode cX8_shod 60 = .ok (.iaload, 1) := by decide +kernel
theorem dX8_shod_61 : decode cX8_shod 61 = .ok (.ireturn, 1) := by decide +kernel
theorem dX8_most_0 : decode cX8_most 0 = .ok (.iload_n 1, 1) := by decide +kernel
theorem dX8_most_1 : decode cX8_most 1 = .ok (.i2l, 1) := by decide +kernel
theorem dX8_most_2 : decode cX8_most 2 = .ok (.lconst 0, 1) := by decide +kernel
theorem dX8_most_3 : decode cX8_most 3 = .ok (.lconst 1, 1) := by decide +kernel
theorem dX8_most_4 : decode cX8_most 4 = .ok (.invokestatic 85, 3) := by decide +kernel
theorem dX8_most_7 : decode cX8_most 7 = .ok (.ifCond .ne 5, 3) := by decide +kernel
theorem dX8_most_10 : decode cX8_most 10 = .ok (.iconst (-1), 1) := by decide +kernel
theorem dX8_most_11 : decode cX8_most 11 = .ok (.ireturn, 1) := by decide +kernel
theorem dX8_most_12 : decode cX8_most 12 = .ok (.aload_n 0, 1) := by decide +kernel
theorem dX8_most_13 : decode cX8_most 13 = .ok (.iload_n 1, 1) := by decide +kernel
theorem dX8_most_14 : decode cX8_most 14 = .ok (.invokevirtual 193, 3) := by decide +kernel
theorem dX8_most_17 : decode cX8_most 17 = .ok (.iconst 0, 1) := by decide +kernel
theorem dX8_most_18 : decode cX8_most 18 = .ok (.istore_n 2, 1) := by decide +kernel
theorem dX8_most_19 : decode cX8_most 19 = .ok (.iload_n 2, 1) := by decide +kernel
theorem dX8_most_20 : decode cX8_most 20 = .ok (.sipush 128, 3) := by decide +kernel
theorem dX8_most_23 : decode cX8_most 23 = .ok (.if_icmp .ge 24, 3) := by decide +kernel
theorem dX8_most_26 : decode cX8_most 26 = .ok (.aload_n 0, 1) := by decide +kernel
theorem dX8_most_27 : decode cX8_most 27 = .ok (.getfield 38, 3) := by decide +kernel
theorem dX8_most_30 : decode cX8_most 30 = .ok (.iload_n 2, 1) := by decide +kernel
theorem dX8_most_31 : decode cX8_most 31 = .ok (.iload_n 2, 1) := by decide +kernel
theorem dX8_most_32 : decode cX8_most 32 = .ok (.ifCond .ne 7, 3) := by decide +kernel
theorem dX8_most_35 : decode cX8_most 35 = .ok (.iconst 1, 1) := by decide +kernel
theorem dX8_most_36 : decode cX8_most 36 = .ok (.goto 4, 3) := by decide +kernel
theorem dX8_most_39 : decode cX8_most 39 = .ok (.iconst 0, 1) := by decide +kernel
theorem dX8_most_40 : decode cX8_most 40 = .ok (.bastore, 1) := by decide +kernel
theorem dX8_most_41 : decode cX8_most 41 = .ok (.iinc 2 1, 3) := by decide +kernel
theorem dX8_most_44 : decode cX8_most 44 = .ok (.goto (-25), 3) := by decide +kernel
theorem dX8_most_47 : decode cX8_most 47 = .ok (.iconst 0, 1) := by decide +kernel
theorem dX8_most_48 : decode cX8_most 48 = .ok (.istore_n 2, 1) := by decide +kernel
theorem dX8_most_49 : decode cX8_most 49 = .ok (.iload_n 2, 1) := by decide +kernel
theorem dX8_most_50 : decode cX8_most 50 = .ok (.aload_n 0, 1) := by decide +kernel
theorem dX8_most_51 : decode cX8_most 51 = .ok (.getfield 186, 3) := by decide +kernel
theorem dX8_most_54 : decode cX8_most 54 = .ok (.if_icmp .ge 107, 3) := by decide +kernel
theorem dX8_most_57 : decode cX8_most 57 = .ok (.iconst 1, 1) := by decide +kernel
theorem dX8_most_58 : decode cX8_most 58 = .ok (.aload_n 0, 1) := by decide +kernel
theorem dX8_most_59 : decode cX8_most 59 = .ok (.getfield 81, 3) := by decide +kernel
theorem dX8_most_62 : decode cX8_most 62 = .ok (.ishl, 1) := by decide +kernel
theorem dX8_most_63 : decode cX8_most 63 = .ok (.iconst 1, 1) := by decide +kernel
theorem dX8_most_64 : decode cX8_most 64 = .ok (.isub, 1) := by decide +kernel
theorem dX8_most_65 : decode cX8_most 65 = .ok (.istore_n 3, 1) := by decide +kernel
theorem dX8_most_66 : decode cX8_most 66 = .ok (.iload_n 3, 1) := by decide +kernel
theorem dX8_most_67 : decode cX8_most 67 = .ok (.ifCond .le 88, 3) := by decide +kernel
theorem dX8_most_70 : decode cX8_most 70 = .ok (.iconst 0, 1) := by decide +kernel
theorem dX8_most_71 : decode cX8_most 71 = .ok (.istore 4, 2) := by decide +kernel
theorem dX8_most_73 : decode cX8_most 73 = .ok (.iload 4, 2) := by decide +kernel
theorem dX8_most_75 : decode cX8_most 75 = .ok (.aload_n 0, 1) := by decide +kernel
theorem dX8_most_76 : decode cX8_most 76 = .ok (.getfield 81, 3) := by decide +kernel
theorem dX8_most_79 : decode cX8_most 79 = .ok (.if_icmp .ge 70, 3) := by decide +kernel
theorem dX8_most_82 : decode cX8_most 82 = .ok (.aload_n 0, 1) := by decide +kernel
theorem dX8_most_83 : decode cX8_most 83 = .ok (.getfield 38, 3) := by decide +kernel
theorem dX8_most_86 : decode cX8_most 86 = .ok (.iload_n 3, 1) := by decide +kernel
theorem dX8_most_87 : decode cX8_most 87 = .ok (.aload_n 0, 1) := by decide +kernel
theorem dX8_most_88 : decode cX8_most 88 = .ok (.getfield 38, 3) := by decide +kernel
theorem dX8_most_91 : decode cX8_most 91 = .ok (.iload_n 3, 1) := by decide +kernel
theorem dX8_most_92 : decode cX8_most 92 = .ok (.baload, 1) := by decide +kernel
theorem dX8_most_93 : decode cX8_most 93 = .ok (.ifCond .ne 44, 3) := by decide +kernel
theorem dX8_most_96 : decode cX8_most 96 = .ok (.iload_n 3, 1) := by decide +kernel
theorem dX8_most_97 : decode cX8_most 97 = .ok (.iload 4, 2) := by decide +kernel
theorem dX8_most_99 : decode cX8_most 99 = .ok (.ishr, 1) := by decide +kernel
theorem dX8_most_100 : decode cX8_most 100 = .ok (.iconst 1, 1) := by decide +kernel
theorem dX8_most_101 : decode cX8_most 101 = .ok (.iand, 1) := by decide +kernel
theorem dX8_most_102 : decode cX8_most 102 = .ok (.iconst 1, 1) := by decide +kernel
theorem dX8_most_103 : decode cX8_most 103 = .ok (.if_icmp .ne 38, 3) := by decide +kernel
theorem dX8_most_106 : decode cX8_most 106 = .ok (.aload_n 0, 1) := by decide +kernel
theorem dX8_most_107 : decode cX8_most 107 = .ok (.getfield 28, 3) := by decide +kernel
theorem dX8_most_110 : decode cX8_most 110 = .ok (.bipush 16, 2) := by decide +kernel
theorem dX8_most_112 : decode cX8_most 112 = .ok (.iload 4, 2) := by decide +kernel
theorem dX8_most_114 : decode cX8_most 114 = .ok (.imul, 1) := by decide +kernel
theorem dX8_most_115 : decode cX8_most 115 = .ok (.iload_n 2, 1) := by decide +kernel
theorem dX8_most_116 : decode cX8_most 116 = .ok (.iadd, 1) := by decide +kernel
theorem dX8_most_117 : decode cX8_most 117 = .ok (.iaload, 1) := by decide +kernel
theorem dX8_most_118 : decode cX8_most 118 = .ok (.ifCond .lt 23, 3) := by decide +kernel
theorem dX8_most_121 : decode cX8_most 121 = .ok (.aload_n 0, 1) := by decide +kernel
theorem dX8_most_122 : decode cX8_most 122 = .ok (.getfield 38, 3) := by decide +kernel
theorem dX8_most_125 : decode cX8_most 125 = .ok (.iload_n 3, 1) := by decide +kernel
theorem dX8_most_126 : decode cX8_most 126 = .ok (.iconst 1, 1) := by decide +kernel
theorem dX8_most_127 : decode cX8_most 127 = .ok (.iload 4, 2) := by decide +kernel
theorem dX8_most_129 : decode cX8_most 129 = .ok (.ishl, 1) := by decide +kernel
theorem dX8_most_130 : decode cX8_most 130 = .ok (.iconst (-1), 1) := by decide +kernel
theorem dX8_most_131 : decode cX8_most 131 = .ok (.ixor, 1) := by decide +kernel
theorem dX8_most_132 : decode cX8_most 132 = .ok (.iand, 1) := by decide +kernel
theorem dX8_most_133 : decode cX8_most 133 = .ok (.baload, 1) := by decide +kernel
theorem dX8_most_134 : decode cX8_most 134 = .ok (.ifCond .eq 7, 3) := by decide +kernel
theorem dX8_most_137 : decode cX8_most 137 = .ok (.iconst 1, 1) := by decide +kernel
theorem dX8_most_138 : decode cX8_most 138 = .ok (.goto 4, 3) := by decide +kernel
theorem dX8_most_141 : decode cX8_most 141 = .ok (.iconst 0, 1) := by decide +kernel
theorem dX8_most_142 : decode cX8_most 142 = .ok (.bastore, 1) := by decide +kernel
theorem dX8_most_143 : decode cX8_most 143 = .ok (.iinc 4 1, 3) := by decide +kernel
theorem dX8_most_146 : decode cX8_most 146 = .ok (.goto (-73), 3) := by decide +kernel
theorem dX8_most_149 : decode cX8_most 149 = .ok (.iinc 3 (-1), 3) := by decide +kernel
theorem dX8_most_152 : decode cX8_most 152 = .ok (.goto (-86), 3) := by decide +kernel
theorem dX8_most_155 : decode cX8_most 155 = .ok (.iinc 2 1, 3) := by decide +kernel
theorem dX8_most_158 : decode cX8_most 158 = .ok (.goto (-109), 3) := by decide +kernel
theorem dX8_most_161 : decode cX8_most 161 = .ok (.iconst 0, 1) := by decide +kernel
theorem dX8_most_162 : decode cX8_most 162 = .ok (.istore_n 2, 1) := by decide +kernel
theorem dX8_most_163 : decode cX8_most 163 = .ok (.iconst 0, 1) := by decide +kernel
theorem dX8_most_164 : decode cX8_most 164 = .ok (.istore_n 3, 1) := by decide +kernel
theorem dX8_most_165 : decode cX8_most 165 = .ok (.iload_n 3, 1) := by decide +kernel
theorem dX8_most_166 : decode cX8_most 166 = .ok (.iconst 1, 1) := by decide +kernel
theorem dX8_most_167 : decode cX8_most 167 = .ok (.aload_n 0, 1) := by decide +kernel
theorem dX8_most_168 : decode cX8_most 168 = .ok (.getfield 81, 3) := by decide +kernel
theorem dX8_most_171 : decode cX8_most 171 = .ok (.ishl, 1) := by decide +kernel
theorem dX8_most_172 : decode cX8_most 172 = .ok (.if_icmp .ge 35, 3) := by decide +kernel
theorem dX8_most_175 : decode cX8_most 175 = .ok (.aload_n 0, 1) := by decide +kernel
theorem dX8_most_176 : decode cX8_most 176 = .ok (.getfield 38, 3) := by decide +kernel
theorem dX8_most_179 : decode cX8_most 179 = .ok (.iload_n 3, 1) := by decide +kernel
theorem dX8_most_180 : decode cX8_most 180 = .ok (.baload, 1) := by decide +kernel
theorem dX8_most_181 : decode cX8_most 181 = .ok (.ifCond .eq 18, 3) := by decide +kernel
theorem dX8_most_184 : decode cX8_most 184 = .ok (.iload_n 3, 1) := by decide +kernel
theorem dX8_most_185 : decode cX8_most 185 = .ok (.invokestatic 189, 3) := by decide +kernel
theorem dX8_most_188 : decode cX8_most 188 = .ok (.iload_n 2, 1) := by decide +kernel
theorem dX8_most_189 : decode cX8_most 189 = .ok (.if_icmp .le 10, 3) := by decide +kernel
theorem dX8_most_192 : decode cX8_most 192 = .ok (.iload_n 3, 1) := by decide +kernel
theorem dX8_most_193 : decode cX8_most 193 = .ok (.invokestatic 189, 3) := by decide +kernel
theorem dX8_most_196 : decode cX8_most 196 = .ok (.goto 4, 3) := by decide +kernel
theorem dX8_most_199 : decode cX8_most 199 = .ok (.iload_n 2, 1) := by decide +kernel
theorem dX8_most_200 : decode cX8_most 200 = .ok (.istore_n 2, 1) := by decide +kernel
theorem dX8_most_201 : decode cX8_most 201 = .ok (.iinc 3 1, 3) := by decide +kernel
theorem dX8_most_204 : decode cX8_most 204 = .ok (.goto (-39), 3) := by decide +kernel
theorem dX8_most_207 : decode cX8_most 207 = .ok (.iload_n 2, 1) := by decide +kernel
theorem dX8_most_208 : decode cX8_most 208 = .ok (.ireturn, 1) := by decide +kernel
theorem dX8_chain_0 : decode cX8_chain 0 = .ok (.aload_n 0, 1) := by decide +kernel
theorem dX8_chain_1 : decode cX8_chain 1 = .ok (.iload_n 1, 1) := by decide +kernel
theorem dX8_chain_2 : decode cX8_chain 2 = .ok (.invokevirtual 116, 3) := by decide +kernel
theorem dX8_chain_5 : decode cX8_chain 5 = .ok (.ifCond .ne 5, 3) := by decide +kernel
theorem dX8_chain_8 : decode cX8_chain 8 = .ok (.iconst (-1), 1) := by decide +kernel
theorem dX8_chain_9 : decode cX8_chain 9 = .ok (.ireturn, 1) := by decide +kernel
theorem dX8_chain_10 : decode cX8_chain 10 = .ok (.aload_n 0, 1) := by decide +kernel
theorem dX8_chain_11 : decode cX8_chain 11 = .ok (.getfield 13, 3) := by decide +kernel
theorem dX8_chain_14 : decode cX8_chain 14 = .ok (.iconst 4, 1) := by decide +kernel
theorem dX8_chain_15 : decode cX8_chain 15 = .ok (.iload_n 1, 1) := by decide +kernel
theorem dX8_chain_16 : decode cX8_chain 16 = .ok (.imul, 1) := by decide +kernel
theorem dX8_chain_17 : decode cX8_chain 17 = .ok (.iconst 3, 1) := by decide +kernel
theorem dX8_chain_18 : decode cX8_chain 18 = .ok (.iadd, 1) := by decide +kernel
theorem dX8_chain_19 : decode cX8_chain 19 = .ok (.iaload, 1) := by decide +kernel
theorem dX8_chain_20 : decode cX8_chain 20 = .ok (.iconst 1, 1) := by decide +kernel
theorem dX8_chain_21 : decode cX8_chain 21 = .ok (.if_icmp .eq 20, 3) := by decide +kernel
theorem dX8_chain_24 : decode cX8_chain 24 = .ok (.aload_n 0, 1) := by decide +kernel
theorem dX8_chain_25 : decode cX8_chain 25 = .ok (.aload_n 0, 1) := by decide +kernel
theorem dX8_chain_26 : decode cX8_chain 26 = .ok (.getfield 13, 3) := by decide +kernel
theorem dX8_chain_29 : decode cX8_chain 29 = .ok (.iconst 4, 1) := by decide +kernel
theorem dX8_chain_30 : decode cX8_chain 30 = .ok (.iload_n 1, 1) := by decide +kernel
theorem dX8_chain_31 : decode cX8_chain 31 = .ok (.imul, 1) := by decide +kernel
theorem dX8_chain_32 : decode cX8_chain 32 = .ok (.iaload, 1) := by decide +kernel
theorem dX8_chain_33 : decode cX8_chain 33 = .ok (.invokevirtual 202, 3) := by decide +kernel
theorem dX8_chain_36 : decode cX8_chain 36 = .ok (.ldc 192, 2) := by decide +kernel
theorem dX8_chain_38 : decode cX8_chain 38 = .ok (.if_icmp .lt 6, 3) := by decide +kernel
theorem dX8_chain_41 : decode cX8_chain 41 = .ok (.bipush (-2), 2) := by decide +kernel
theorem dX8_chain_43 : decode cX8_chain 43 = .ok (.ireturn, 1) := by decide +kernel
theorem dX8_chain_44 : decode cX8_chain 44 = .ok (.iconst 0, 1) := by decide +kernel
theorem dX8_chain_45 : decode cX8_chain 45 = .ok (.istore_n 2, 1) := by decide +kernel
theorem dX8_chain_46 : decode cX8_chain 46 = .ok (.iconst 0, 1) := by decide +kernel
theorem dX8_chain_47 : decode cX8_chain 47 = .ok (.istore_n 3, 1) := by decide +kernel
theorem dX8_chain_48 : decode cX8_chain 48 = .ok (.iload_n 3, 1) := by decide +kernel
theorem dX8_chain_49 : decode cX8_chain 49 = .ok (.aload_n 0, 1) := by decide +kernel
theorem dX8_chain_50 : decode cX8_chain 50 = .ok (.getfield 81, 3) := by decide +kernel
theorem dX8_chain_53 : decode cX8_chain 53 = .ok (.if_icmp .ge 29, 3) := by decide +kernel
theorem dX8_chain_56 : decode cX8_chain 56 = .ok (.iload_n 2, 1) := by decide +kernel
theorem dX8_chain_57 : decode cX8_chain 57 = .ok (.ifCond .ne 13, 3) := by decide +kernel
theorem dX8_chain_60 : decode cX8_chain 60 = .ok (.aload_n 0, 1) := by decide +kernel
theorem dX8_chain_61 : decode cX8_chain 61 = .ok (.getfield 35, 3) := by decide +kernel
theorem dX8_chain_64 : decode cX8_chain 64 = .ok (.iload_n 3, 1) := by decide +kernel
theorem dX8_chain_65 : decode cX8_chain 65 = .ok (.iaload, 1) := by decide +kernel
theorem dX8_chain_66 : decode cX8_chain 66 = .ok (.iload_n 1, 1) := by decide +kernel
theorem dX8_chain_67 : decode cX8_chain 67 = .ok (.if_icmp .ne 7, 3) := by decide +kernel
theorem dX8_chain_70 : decode cX8_chain 70 = .ok (.iconst 1, 1) := by decide +kernel
theorem dX8_chain_71 : decode cX8_chain 71 = .ok (.goto 4, 3) := by decide +kernel
theorem dX8_chain_74 : decode cX8_chain 74 = .ok (.iconst 0, 1) := by decide +kernel
theorem dX8_chain_75 : decode cX8_chain 75 = .ok (.istore_n 2, 1) := by decide +kernel
theorem dX8_chain_76 : decode cX8_chain 76 = .ok (.iinc 3 1, 3) := by decide +kernel
theorem dX8_chain_79 : decode cX8_chain 79 = .ok (.goto (-31), 3) := by decide +kernel
theorem dX8_chain_82 : decode cX8_chain 82 = .ok (.iload_n 2, 1) := by decide +kernel
theorem dX8_chain_83 : decode cX8_chain 83 = .ok (.ifCond .ne 6, 3) := by decide +kernel
theorem dX8_chain_86 : decode cX8_chain 86 = .ok (.bipush (-2), 2) := by decide +kernel
theorem dX8_chain_88 : decode cX8_chain 88 = .ok (.ireturn, 1) := by decide +kernel
theorem dX8_chain_89 : decode cX8_chain 89 = .ok (.iconst 0, 1) := by decide +kernel
theorem dX8_chain_90 : decode cX8_chain 90 = .ok (.istore_n 3, 1) := by decide +kernel
theorem dX8_chain_91 : decode cX8_chain 91 = .ok (.iload_n 3, 1) := by decide +kernel
theorem dX8_chain_92 : decode cX8_chain 92 = .ok (.aload_n 0, 1) := by decide +kernel
theorem dX8_chain_93 : decode cX8_chain 93 = .ok (.getfield 81, 3) := by decide +kernel
theorem dX8_chain_96 : decode cX8_chain 96 = .ok (.if_icmp .ge 95, 3) := by decide +kernel
theorem dX8_chain_99 : decode cX8_chain 99 = .ok (.iconst 0, 1) := by decide +kernel
theorem dX8_chain_100 : decode cX8_chain 100 = .ok (.istore 4, 2) := by decide +kernel
theorem dX8_chain_102 : decode cX8_chain 102 = .ok (.iload 4, 2) := by decide +kernel
theorem dX8_chain_104 : decode cX8_chain 104 = .ok (.aload_n 0, 1) := by decide +kernel
theorem dX8_chain_105 : decode cX8_chain 105 = .ok (.getfield 186, 3) := by decide +kernel
theorem dX8_chain_108 : decode cX8_chain 108 = .ok (.if_icmp .ge 77, 3) := by decide +kernel
theorem dX8_chain_111 : decode cX8_chain 111 = .ok (.aload_n 0, 1) := by decide +kernel
theorem dX8_chain_112 : decode cX8_chain 112 = .ok (.getfield 28, 3) := by decide +kernel
theorem dX8_chain_115 : decode cX8_chain 115 = .ok (.bipush 16, 2) := by decide +kernel
theorem dX8_chain_117 : decode cX8_chain 117 = .ok (.iload_n 3, 1) := by decide +kernel
theorem dX8_chain_118 : decode cX8_chain 118 = .ok (.imul, 1) := by decide +kernel
theorem dX8_chain_119 : decode cX8_chain 119 = .ok (.iload 4, 2) := by decide +kernel
theorem dX8_chain_121 : decode cX8_chain 121 = .ok (.iadd, 1) := by decide +kernel
theorem dX8_chain_122 : decode cX8_chain 122 = .ok (.iaload, 1) := by decide +kernel
theorem dX8_chain_123 : decode cX8_chain 123 = .ok (.istore 5, 2) := by decide +kernel
theorem dX8_chain_125 : decode cX8_chain 125 = .ok (.aload_n 0, 1) := by decide +kernel
theorem dX8_chain_126 : decode cX8_chain 126 = .ok (.getfield 28, 3) := by decide +kernel
theorem dX8_chain_129 : decode cX8_chain 129 = .ok (.bipush 16, 2) := by decide +kernel
theorem dX8_chain_131 : decode cX8_chain 131 = .ok (.iload_n 3, 1) := by decide +kernel
theorem dX8_chain_132 : decode cX8_chain 132 = .ok (.imul, 1) := by decide +kernel
theorem dX8_chain_133 : decode cX8_chain 133 = .ok (.iload 4, 2) := by decide +kernel
theorem dX8_chain_135 : decode cX8_chain 135 = .ok (.iadd, 1) := by decide +kernel
theorem dX8_chain_136 : decode cX8_chain 136 = .ok (.iload 5, 2) := by decide +kernel
theorem dX8_chain_138 : decode cX8_chain 138 = .ok (.ifCond .lt 14, 3) := by decide +kernel
theorem dX8_chain_141 : decode cX8_chain 141 = .ok (.aload_n 0, 1) := by decide +kernel
theorem dX8_chain_142 : decode cX8_chain 142 = .ok (.getfield 25, 3) := by decide +kernel
theorem dX8_chain_145 : decode cX8_chain 145 = .ok (.iload 4, 2) := by decide +kernel
theorem dX8_chain_147 : decode cX8_chain 147 = .ok (.iaload, 1) := by decide +kernel
theorem dX8_chain_148 : decode cX8_chain 148 = .ok (.iload_n 1, 1) := by decide +kernel
theorem dX8_chain_149 : decode cX8_chain 149 = .ok (.if_icmp .ne 8, 3) := by decide +kernel
theorem dX8_chain_152 : decode cX8_chain 152 = .ok (.bipush (-4), 2) := by decide +kernel
theorem dX8_chain_154 : decode cX8_chain 154 = .ok (.goto 24, 3) := by decide +kernel
theorem dX8_chain_157 : decode cX8_chain 157 = .ok (.aload_n 0, 1) := by decide +kernel
theorem dX8_chain_158 : decode cX8_chain 158 = .ok (.getfield 35, 3) := by decide +kernel
theorem dX8_chain_161 : decode cX8_chain 161 = .ok (.iload_n 3, 1) := by decide +kernel
theorem dX8_chain_162 : decode cX8_chain 162 = .ok (.iaload, 1) := by decide +kernel
theorem dX8_chain_163 : decode cX8_chain 163 = .ok (.aload_n 0, 1) := by decide +kernel
theorem dX8_chain_164 : decode cX8_chain 164 = .ok (.getfield 25, 3) := by decide +kernel
theorem dX8_chain_167 : decode cX8_chain 167 = .ok (.iload 4, 2) := by decide +kernel
theorem dX8_chain_169 : decode cX8_chain 169 = .ok (.iaload, 1) := by decide +kernel
theorem dX8_chain_170 : decode cX8_chain 170 = .ok (.if_icmp .ne 7, 3) := by decide +kernel
theorem dX8_chain_173 : decode cX8_chain 173 = .ok (.iconst 0, 1) := by decide +kernel
theorem dX8_chain_174 : decode cX8_chain 174 = .ok (.goto 4, 3) := by decide +kernel
theorem dX8_chain_177 : decode cX8_chain 177 = .ok (.iconst 1, 1) := by decide +kernel
theorem dX8_chain_178 : decode cX8_chain 178 = .ok (.iastore, 1) := by decide +kernel
theorem dX8_chain_179 : decode cX8_chain 179 = .ok (.iinc 4 1, 3) := by decide +kernel
theorem dX8_chain_182 : decode cX8_chain 182 = .ok (.goto (-80), 3) := by decide +kernel
theorem dX8_chain_185 : decode cX8_chain 185 = .ok (.iinc 3 1, 3) := by decide +kernel
theorem dX8_chain_188 : decode cX8_chain 188 = .ok (.goto (-97), 3) := by decide +kernel
theorem dX8_chain_191 : decode cX8_chain 191 = .ok (.aload_n 0, 1) := by decide +kernel
theorem dX8_chain_192 : decode cX8_chain 192 = .ok (.invokevirtual 197, 3) := by decide +kernel
theorem dX8_chain_195 : decode cX8_chain 195 = .ok (.istore_n 3, 1) := by decide +kernel
theorem dX8_chain_196 : decode cX8_chain 196 = .ok (.iload_n 3, 1) := by decide +kernel
theorem dX8_chain_197 : decode cX8_chain 197 = .ok (.ldc 192, 2) := by decide +kernel
theorem dX8_chain_199 : decode cX8_chain 199 = .ok (.if_icmp .lt 8, 3) := by decide +kernel
theorem dX8_chain_202 : decode cX8_chain 202 = .ok (.bipush (-4), 2) := by decide +kernel
theorem dX8_chain_204 : decode cX8_chain 204 = .ok (.goto 4, 3) := by decide +kernel
theorem dX8_chain_207 : decode cX8_chain 207 = .ok (.iload_n 3, 1) := by decide +kernel
theorem dX8_chain_208 : decode cX8_chain 208 = .ok (.ireturn, 1) := by decide +kernel
theorem dX8_limpsOf_0 : decode cX8_limpsOf 0 = .ok (.aload_n 0, 1) := by decide +kernel
theorem dX8_limpsOf_1 : decode cX8_limpsOf 1 = .ok (.iload_n 1, 1) := by decide +kernel
theorem dX8_limpsOf_2 : decode cX8_limpsOf 2 = .ok (.aload_n 0, 1) := by decide +kernel
theorem dX8_limpsOf_3 : decode cX8_limpsOf 3 = .ok (.getfield 13, 3) := by decide +kernel
theorem dX8_limpsOf_6 : decode cX8_limpsOf 6 = .ok (.iconst 4, 1) := by decide +kernel
theorem dX8_limpsOf_7 : decode cX8_limpsOf 7 = .ok (.iload_n 2, 1) := by decide +kernel
theorem dX8_limpsOf_8 : decode cX8_limpsOf 8 = .ok (.imul, 1) := by decide +kernel
theorem dX8_limpsOf_9 : decode cX8_limpsOf 9 = .ok (.iaload, 1) := by decide +kernel
theorem dX8_limpsOf_10 : decode cX8_limpsOf 10 = .ok (.iload_n 3, 1) := by decide +kernel
theorem dX8_limpsOf_11 : decode cX8_limpsOf 11 = .ok (.invokevirtual 121, 3) := by decide +kernel
theorem dX8_limpsOf_14 : decode cX8_limpsOf 14 = .ok (.istore 4, 2) := by decide +kernel
theorem dX8_limpsOf_16 : decode cX8_limpsOf 16 = .ok (.aload_n 0, 1) := by decide +kernel
theorem dX8_limpsOf_17 : decode cX8_limpsOf 17 = .ok (.getfield 13, 3) := by decide +kernel
theorem dX8_limpsOf_20 : decode cX8_limpsOf 20 = .ok (.iconst 4, 1) := by decide +kernel
theorem dX8_limpsOf_21 : decode cX8_limpsOf 21 = .ok (.iload_n 2, 1) := by decide +kernel
theorem dX8_limpsOf_22 : decode cX8_limpsOf 22 = .ok (.imul, 1) := by decide +kernel
theorem dX8_limpsOf_23 : decode cX8_limpsOf 23 = .ok (.iconst 1, 1) := by decide +kernel
theorem dX8_limpsOf_24 : decode cX8_limpsOf 24 = .ok (.iadd, 1) := by decide +kernel
theorem dX8_limpsOf_25 : decode cX8_limpsOf 25 = .ok (.iaload, 1) := by decide +kernel
theorem dX8_limpsOf_26 : decode cX8_limpsOf 26 = .ok (.istore 5, 2) := by decide +kernel
theorem dX8_limpsOf_28 : decode cX8_limpsOf 28 = .ok (.iload 4, 2) := by decide +kernel
theorem dX8_limpsOf_30 : decode cX8_limpsOf 30 = .ok (.aload_n 0, 1) := by decide +kernel
theorem dX8_limpsOf_31 : decode cX8_limpsOf 31 = .ok (.iload_n 2, 1) := by decide +kernel
theorem dX8_limpsOf_32 : decode cX8_limpsOf 32 = .ok (.invokevirtual 132, 3) := by decide +kernel
theorem dX8_limpsOf_35 : decode cX8_limpsOf 35 = .ok (.iadd, 1) := by decide +kernel
theorem dX8_limpsOf_36 : decode cX8_limpsOf 36 = .ok (.istore 6, 2) := by decide +kernel
theorem dX8_limpsOf_38 : decode cX8_limpsOf 38 = .ok (.iload 4, 2) := by decide +kernel
theorem dX8_limpsOf_40 : decode cX8_limpsOf 40 = .ok (.aload_n 0, 1) := by decide +kernel
theorem dX8_limpsOf_41 : decode cX8_limpsOf 41 = .ok (.iload_n 2, 1) := by decide +kernel
theorem dX8_limpsOf_42 : decode cX8_limpsOf 42 = .ok (.invokevirtual 129, 3) := by decide +kernel
theorem dX8_limpsOf_45 : decode cX8_limpsOf 45 = .ok (.isub, 1) := by decide +kernel
theorem dX8_limpsOf_46 : decode cX8_limpsOf 46 = .ok (.istore 7, 2) := by decide +kernel
theorem dX8_limpsOf_48 : decode cX8_limpsOf 48 = .ok (.iload 5, 2) := by decide +kernel
theorem dX8_limpsOf_50 : decode cX8_limpsOf 50 = .ok (.iload 6, 2) := by decide +kernel
theorem dX8_limpsOf_52 : decode cX8_limpsOf 52 = .ok (.if_icmp .le 11, 3) := by decide +kernel
theorem dX8_limpsOf_55 : decode cX8_limpsOf 55 = .ok (.iload 5, 2) := by decide +kernel
theorem dX8_limpsOf_57 : decode cX8_limpsOf 57 = .ok (.iload 6, 2) := by decide +kernel
theorem dX8_limpsOf_59 : decode cX8_limpsOf 59 = .ok (.isub, 1) := by decide +kernel
theorem dX8_limpsOf_60 : decode cX8_limpsOf 60 = .ok (.goto 19, 3) := by decide +kernel
theorem dX8_limpsOf_63 : decode cX8_limpsOf 63 = .ok (.iload 5, 2) := by decide +kernel
theorem dX8_limpsOf_65 : decode cX8_limpsOf 65 = .ok (.iload 7, 2) := by decide +kernel
theorem dX8_limpsOf_67 : decode cX8_limpsOf 67 = .ok (.if_icmp .ge 11, 3) := by decide +kernel
theorem dX8_limpsOf_70 : decode cX8_limpsOf 70 = .ok (.iload 5, 2) := by decide +kernel
theorem dX8_limpsOf_72 : decode cX8_limpsOf 72 = .ok (.iload 7, 2) := by decide +kernel
theorem dX8_limpsOf_74 : decode cX8_limpsOf 74 = .ok (.isub, 1) := by decide +kernel
theorem dX8_limpsOf_75 : decode cX8_limpsOf 75 = .ok (.goto 4, 3) := by decide +kernel
theorem dX8_limpsOf_78 : decode cX8_limpsOf 78 = .ok (.iconst 0, 1) := by decide +kernel
theorem dX8_limpsOf_79 : decode cX8_limpsOf 79 = .ok (.ireturn, 1) := by decide +kernel
theorem dX8_limps_0 : decode cX8_limps 0 = .ok (.aload_n 0, 1) := by decide +kernel
theorem dX8_limps_1 : decode cX8_limps 1 = .ok (.iload_n 1, 1) := by decide +kernel
theorem dX8_limps_2 : decode cX8_limps 2 = .ok (.invokevirtual 104, 3) := by decide +kernel
theorem dX8_limps_5 : decode cX8_limps 5 = .ok (.ifCond .eq 28, 3) := by decide +kernel
theorem dX8_limps_8 : decode cX8_limps 8 = .ok (.aload_n 0, 1) := by decide +kernel
theorem dX8_limps_9 : decode cX8_limps 9 = .ok (.iload_n 2, 1) := by decide +kernel
theorem dX8_limps_10 : decode cX8_limps 10 = .ok (.invokevirtual 116, 3) := by decide +kernel
theorem dX8_limps_13 : decode cX8_limps 13 = .ok (.ifCond .eq 20, 3) := by decide +kernel
theorem dX8_limps_16 : decode cX8_limps 16 = .ok (.iload_n 3, 1) := by decide +kernel
theorem dX8_limps_17 : decode cX8_limps 17 = .ok (.invokestatic 135, 3) := by decide +kernel
theorem dX8_limps_20 : decode cX8_limps 20 = .ok (.ifCond .eq 13, 3) := by decide +kernel
theorem dX8_limps_23 : decode cX8_limps 23 = .ok (.aload_n 0, 1) := by decide +kernel
theorem dX8_limps_24 : decode cX8_limps 24 = .ok (.iload_n 1, 1) := by decide +kernel
theorem dX8_limps_25 : decode cX8_limps 25 = .ok (.iload_n 2, 1) := by decide +kernel
theorem dX8_limps_26 : decode cX8_limps 26 = .ok (.iload_n 3, 1) := by decide +kernel
theorem dX8_limps_27 : decode cX8_limps 27 = .ok (.invokevirtual 205, 3) := by decide +kernel
theorem dX8_limps_30 : decode cX8_limps 30 = .ok (.goto 5, 3) := by decide +kernel
theorem dX8_limps_33 : decode cX8_limps 33 = .ok (.ldc 208, 2) := by decide +kernel
theorem dX8_limps_35 : decode cX8_limps 35 = .ok (.ireturn, 1) := by decide +kernel
theorem dX8_triesOf_0 : decode cX8_triesOf 0 = .ok (.iload_n 1, 1) := by decide +kernel
theorem dX8_triesOf_1 : decode cX8_triesOf 1 = .ok (.iload_n 2, 1) := by decide +kernel
theorem dX8_triesOf_2 : decode cX8_triesOf 2 = .ok (.if_icmp .lt 7, 3) := by decide +kernel
theorem dX8_triesOf_5 : decode cX8_triesOf 5 = .ok (.iconst 0, 1) := by decide +kernel
theorem dX8_triesOf_6 : decode cX8_triesOf 6 = .ok (.goto 20, 3) := by decide +kernel
theorem dX8_triesOf_9 : decode cX8_triesOf 9 = .ok (.aload_n 0, 1) := by decide +kernel
theorem dX8_triesOf_10 : decode cX8_triesOf 10 = .ok (.getfield 45, 3) := by decide +kernel
theorem dX8_triesOf_13 : decode cX8_triesOf 13 = .ok (.bipush 41, 2) := by decide +kernel
theorem dX8_triesOf_15 : decode cX8_triesOf 15 = .ok (.iload_n 1, 1) := by decide +kernel
theorem dX8_triesOf_16 : decode cX8_triesOf 16 = .ok (.bipush 20, 2) := by decide +kernel
theorem dX8_triesOf_18 : decode cX8_triesOf 18 = .ok (.isub, 1) := by decide +kernel
theorem dX8_triesOf_19 : decode cX8_triesOf 19 = .ok (.imul, 1) := by decide +kernel
theorem dX8_triesOf_20 : decode cX8_triesOf 20 = .ok (.iload_n 2, 1) := by decide +kernel
theorem dX8_triesOf_21 : decode cX8_triesOf 21 = .ok (.iadd, 1) := by decide +kernel
theorem dX8_triesOf_22 : decode cX8_triesOf 22 = .ok (.bipush 20, 2) := by decide +kernel
theorem dX8_triesOf_24 : decode cX8_triesOf 24 = .ok (.isub, 1) := by decide +kernel
theorem dX8_triesOf_25 : decode cX8_triesOf 25 = .ok (.iaload, 1) := by decide +kernel
theorem dX8_triesOf_26 : decode cX8_triesOf 26 = .ok (.ireturn, 1) := by decide +kernel
theorem dX8_triesBy_0 : decode cX8_triesBy 0 = .ok (.aload_n 0, 1) := by decide +kernel
theorem dX8_triesBy_1 : decode cX8_triesBy 1 = .ok (.iload_n 1, 1) := by decide +kernel
theorem dX8_triesBy_2 : decode cX8_triesBy 2 = .ok (.iload_n 3, 1) := by decide +kernel
theorem dX8_triesBy_3 : decode cX8_triesBy 3 = .ok (.iconst 1, 1) := by decide +kernel
theorem dX8_triesBy_4 : decode cX8_triesBy 4 = .ok (.isub, 1) := by decide +kernel
theorem dX8_triesBy_5 : decode cX8_triesBy 5 = .ok (.invokevirtual 209, 3) := by decide +kernel
theorem dX8_triesBy_8 : decode cX8_triesBy 8 = .ok (.istore 4, 2) := by decide +kernel
theorem dX8_triesBy_10 : decode cX8_triesBy 10 = .ok (.aload_n 0, 1) := by decide +kernel
theorem dX8_triesBy_11 : decode cX8_triesBy 11 = .ok (.iload_n 3, 1) := by decide +kernel
theorem dX8_triesBy_12 : decode cX8_triesBy 12 = .ok (.iconst 1, 1) := by decide +kernel
theorem dX8_triesBy_13 : decode cX8_triesBy 13 = .ok (.iadd, 1) := by decide +kernel
theorem dX8_triesBy_14 : decode cX8_triesBy 14 = .ok (.iload_n 2, 1) := by decide +kernel
theorem dX8_triesBy_15 : decode cX8_triesBy 15 = .ok (.invokevirtual 209, 3) := by decide +kernel
theorem dX8_triesBy_18 : decode cX8_triesBy 18 = .ok (.istore 5, 2) := by decide +kernel
theorem dX8_triesBy_20 : decode cX8_triesBy 20 = .ok (.iconst 1, 1) := by decide +kernel
theorem dX8_triesBy_21 : decode cX8_triesBy 21 = .ok (.iload 4, 2) := by decide +kernel
theorem dX8_triesBy_23 : decode cX8_triesBy 23 = .ok (.iload 5, 2) := by decide +kernel
theorem dX8_triesBy_25 : decode cX8_triesBy 25 = .ok (.if_icmp .le 8, 3) := by decide +kernel
theorem dX8_triesBy_28 : decode cX8_triesBy 28 = .ok (.iload 4, 2) := by decide +kernel
theorem dX8_triesBy_30 : decode cX8_triesBy 30 = .ok (.goto 5, 3) := by decide +kernel
theorem dX8_triesBy_33 : decode cX8_triesBy 33 = .ok (.iload 5, 2) := by decide +kernel
theorem dX8_triesBy_35 : decode cX8_triesBy 35 = .ok (.iadd, 1) := by decide +kernel
theorem dX8_triesBy_36 : decode cX8_triesBy 36 = .ok (.ireturn, 1) := by decide +kernel
theorem dX8_findTries_0 : decode cX8_findTries 0 = .ok (.iconst 0, 1) := by decide +kernel
theorem dX8_findTries_1 : decode cX8_findTries 1 = .ok (.istore_n 2, 1) := by decide +kernel
theorem dX8_findTries_2 : decode cX8_findTries 2 = .ok (.iload_n 2, 1) := by decide +kernel
theorem dX8_findTries_3 : decode cX8_findTries 3 = .ok (.bipush 71, 2) := by decide +kernel
theorem dX8_findTries_5 : decode cX8_findTries 5 = .ok (.if_icmp .ge 16, 3) := by decide +kernel
theorem dX8_findTries_8 : decode cX8_findTries 8 = .ok (.aload_n 0, 1) := by decide +kernel
theorem dX8_findTries_9 : decode cX8_findTries 9 = .ok (.getfield 42, 3) := by decide +kernel
theorem dX8_findTries_12 : decode cX8_findTries 12 = .ok (.iload_n 2, 1) := by decide +kernel
theorem dX8_findTries_13 : decode cX8_findTries 13 = .ok (.iconst 0, 1) := by decide +kernel
theorem dX8_findTries_14 : decode cX8_findTries 14 = .ok (.bastore, 1) := by decide +kernel
theorem dX8_findTries_15 : decode cX8_findTries 15 = .ok (.iinc 2 1, 3) := by decide +kernel
theorem dX8_findTries_18 : decode cX8_findTries 18 = .ok (.goto (-16), 3) := by decide +kernel
theorem dX8_findTries_21 : decode cX8_findTries 21 = .ok (.iconst 0, 1) := by decide +kernel
theorem dX8_findTries_22 : decode cX8_findTries 22 = .ok (.istore_n 2, 1) := by decide +kernel
theorem dX8_findTries_23 : decode cX8_findTries 23 = .ok (.iload_n 2, 1) := by decide +kernel
theorem dX8_findTries_24 : decode cX8_findTries 24 = .ok (.aload_n 0, 1) := by decide +kernel
theorem dX8_findTries_25 : decode cX8_findTries 25 = .ok (.getfield 89, 3) := by decide +kernel
theorem dX8_findTries_28 : decode cX8_findTries 28 = .ok (.if_icmp .ge 72, 3) := by decide +kernel
theorem dX8_findTries_31 : decode cX8_findTries 31 = .ok (.aload_n 0, 1) := by decide +kernel
theorem dX8_findTries_32 : decode cX8_findTries 32 = .ok (.getfield 42, 3) := by decide +kernel
theorem dX8_findTries_35 : decode cX8_findTries 35 = .ok (.aload_n 0, 1) := by decide +kernel
theorem dX8_findTries_36 : decode cX8_findTries 36 = .ok (.getfield 13, 3) := by decide +kernel
theorem dX8_findTries_39 : decode cX8_findTries 39 = .ok (.iconst 4, 1) := by decide +kernel
theorem dX8_findTries_40 : decode cX8_findTries 40 = .ok (.iload_n 2, 1) := by decide +kernel
theorem dX8_findTries_41 : decode cX8_findTries 41 = .ok (.imul, 1) := by decide +kernel
theorem dX8_findTries_42 : decode cX8_findTries 42 = .ok (.iconst 1, 1) := by decide +kernel
theorem dX8_findTries_43 : decode cX8_findTries 43 = .ok (.iadd, 1) := by decide +kernel
theorem dX8_findTries_44 : decode cX8_findTries 44 = .ok (.iaload, 1) := by decide +kernel
theorem dX8_findTries_45 : decode cX8_findTries 45 = .ok (.aload_n 0, 1) := by decide +kernel
theorem dX8_findTries_46 : decode cX8_findTries 46 = .ok (.getfield 42, 3) := by decide +kernel
theorem dX8_findTries_49 : decode cX8_findTries 49 = .ok (.aload_n 0, 1) := by decide +kernel
theorem dX8_findTries_50 : decode cX8_findTries 50 = .ok (.getfield 13, 3) := by decide +kernel
theorem dX8_findTries_53 : decode cX8_findTries 53 = .ok (.iconst 4, 1) := by decide +kernel
theorem dX8_findTries_54 : decode cX8_findTries 54 = .ok (.iload_n 2, 1) := by decide +kernel
theorem dX8_findTries_55 : decode cX8_findTries 55 = .ok (.imul, 1) := by decide +kernel
theorem dX8_findTries_56 : decode cX8_findTries 56 = .ok (.iconst 1, 1) := by decide +kernel
theorem dX8_findTries_57 : decode cX8_findTries 57 = .ok (.iadd, 1) := by decide +kernel
theorem dX8_findTries_58 : decode cX8_findTries 58 = .ok (.iaload, 1) := by decide +kernel
theorem dX8_findTries_59 : decode cX8_findTries 59 = .ok (.baload, 1) := by decide +kernel
theorem dX8_findTries_60 : decode cX8_findTries 60 = .ok (.ifCond .ne 28, 3) := by decide +kernel
theorem dX8_findTries_63 : decode cX8_findTries 63 = .ok (.aload_n 0, 1) := by decide +kernel
theorem dX8_findTries_64 : decode cX8_findTries 64 = .ok (.getfield 13, 3) := by decide +kernel
theorem dX8_findTries_67 : decode cX8_findTries 67 = .ok (.iconst 4, 1) := by decide +kernel
theorem dX8_findTries_68 : decode cX8_findTries 68 = .ok (.iload_n 2, 1) := by decide +kernel
theorem dX8_findTries_69 : decode cX8_findTries 69 = .ok (.imul, 1) := by decide +kernel
theorem dX8_findTries_70 : decode cX8_findTries 70 = .ok (.iaload, 1) := by decide +kernel
theorem dX8_findTries_71 : decode cX8_findTries 71 = .ok (.iload_n 1, 1) := by decide +kernel
theorem dX8_findTries_72 : decode cX8_findTries 72 = .ok (.if_icmp .ne 20, 3) := by decide +kernel
theorem dX8_findTries_75 : decode cX8_findTries 75 = .ok (.aload_n 0, 1) := by decide +kernel
theorem dX8_findTries_76 : decode cX8_findTries 76 = .ok (.getfield 13, 3) := by decide +kernel
theorem dX8_findTries_79 : decode cX8_findTries 79 = .ok (.iconst 4, 1) := by decide +kernel
theorem dX8_findTries_80 : decode cX8_findTries 80 = .ok (.iload_n 2, 1) := by decide +kernel
theorem dX8_findTries_81 : decode cX8_findTries 81 = .ok (.imul, 1) := by decide +kernel
theorem dX8_findTries_82 : decode cX8_findTries 82 = .ok (.iconst 3, 1) := by decide +kernel
theorem dX8_findTries_83 : decode cX8_findTries 83 = .ok (.iadd, 1) := by decide +kernel
theorem dX8_findTries_84 : decode cX8_findTries 84 = .ok (.iaload, 1) := by decide +kernel
theorem dX8_findTries_85 : decode cX8_findTries 85 = .ok (.ifCond .ne 7, 3) := by decide +kernel
theorem dX8_findTries_88 : decode cX8_findTries 88 = .ok (.iconst 1, 1) := by decide +kernel
theorem dX8_findTries_89 : decode cX8_findTries 89 = .ok (.goto 4, 3) := by decide +kernel
theorem dX8_findTries_92 : decode cX8_findTries 92 = .ok (.iconst 0, 1) := by decide +kernel
theorem dX8_findTries_93 : decode cX8_findTries 93 = .ok (.bastore, 1) := by decide +kernel
theorem dX8_findTries_94 : decode cX8_findTries 94 = .ok (.iinc 2 1, 3) := by decide +kernel
theorem dX8_findTries_97 : decode cX8_findTries 97 = .ok (.goto (-74), 3) := by decide +kernel
theorem dX8_findTries_100 : decode cX8_findTries 100 = .ok (.iconst 1, 1) := by decide +kernel
theorem dX8_findTries_101 : decode cX8_findTries 101 = .ok (.istore_n 2, 1) := by decide +kernel
theorem dX8_findTries_102 : decode cX8_findTries 102 = .ok (.iload_n 2, 1) := by decide +kernel
theorem dX8_findTries_103 : decode cX8_findTries 103 = .ok (.bipush 41, 2) := by decide +kernel
theorem dX8_findTries_105 : decode cX8_findTries 105 = .ok (.if_icmp .ge 111, 3) := by decide +kernel
theorem dX8_findTries_108 : decode cX8_findTries 108 = .ok (.bipush 20, 2) := by decide +kernel
theorem dX8_findTries_110 : decode cX8_findTries 110 = .ok (.istore_n 3, 1) := by decide +kernel
theorem dX8_findTries_111 : decode cX8_findTries 111 = .ok (.iload_n 3, 1) := by decide +kernel
theorem dX8_findTries_112 : decode cX8_findTries 112 = .ok (.iload_n 2, 1) := by decide +kernel
theorem dX8_findTries_113 : decode cX8_findTries 113 = .ok (.iadd, 1) := by decide +kernel
theorem dX8_findTries_114 : decode cX8_findTries 114 = .ok (.bipush 60, 2) := by decide +kernel
theorem dX8_findTries_116 : decode cX8_findTries 116 = .ok (.if_icmp .gt 94, 3) := by decide +kernel
theorem dX8_findTries_119 : decode cX8_findTries 119 = .ok (.ldc 192, 2) := by decide +kernel
theorem dX8_findTries_121 : decode cX8_findTries 121 = .ok (.istore 4, 2) := by decide +kernel
theorem dX8_findTries_123 : decode cX8_findTries 123 = .ok (.iload_n 3, 1) := by decide +kernel
theorem dX8_findTries_124 : decode cX8_findTries 124 = .ok (.istore 5, 2) := by decide +kernel
theorem dX8_findTries_126 : decode cX8_findTries 126 = .ok (.iload 5, 2) := by decide +kernel
theorem dX8_findTries_128 : decode cX8_findTries 128 = .ok (.iload_n 3, 1) := by decide +kernel
theorem dX8_findTries_129 : decode cX8_findTries 129 = .ok (.iload_n 2, 1) := by decide +kernel
theorem dX8_findTries_130 : decode cX8_findTries 130 = .ok (.iadd, 1) := by decide +kernel
theorem dX8_findTries_131 : decode cX8_findTries 131 = .ok (.if_icmp .gt 52, 3) := by decide +kernel
theorem dX8_findTries_134 : decode cX8_findTries 134 = .ok (.aload_n 0, 1) := by decide +kernel
theorem dX8_findTries_135 : decode cX8_findTries 135 = .ok (.getfield 42, 3) := by decide +kernel
theorem dX8_findTries_138 : decode cX8_findTries 138 = .ok (.iload 5, 2) := by decide +kernel
theorem dX8_findTries_140 : decode cX8_findTries 140 = .ok (.baload, 1) := by decide +kernel
theorem dX8_findTries_141 : decode cX8_findTries 141 = .ok (.ifCond .eq 16, 3) := by decide +kernel
theorem dX8_findTries_144 : decode cX8_findTries 144 = .ok (.aload_n 0, 1) := by decide +kernel
theorem dX8_findTries_145 : decode cX8_findTries 145 = .ok (.iload_n 3, 1) := by decide +kernel
theorem dX8_findTries_146 : decode cX8_findTries 146 = .ok (.iload_n 3, 1) := by decide +kernel
theorem dX8_findTries_147 : decode cX8_findTries 147 = .ok (.iload_n 2, 1) := by decide +kernel
theorem dX8_findTries_148 : decode cX8_findTries 148 = .ok (.iadd, 1) := by decide +kernel
theorem dX8_findTries_149 : decode cX8_findTries 149 = .ok (.iload 5, 2) := by decide +kernel
theorem dX8_findTries_151 : decode cX8_findTries 151 = .ok (.invokevirtual 212, 3) := by decide +kernel
theorem dX8_findTries_154 : decode cX8_findTries 154 = .ok (.goto 5, 3) := by decide +kernel
theorem dX8_findTries_157 : decode cX8_findTries 157 = .ok (.ldc 192, 2) := by decide +kernel
theorem dX8_findTries_159 : decode cX8_findTries 159 = .ok (.istore 6, 2) := by decide +kernel
theorem dX8_findTries_161 : decode cX8_findTries 161 = .ok (.iload 6, 2) := by decide +kernel
theorem dX8_findTries_163 : decode cX8_findTries 163 = .ok (.iload 4, 2) := by decide +kernel
theorem dX8_findTries_165 : decode cX8_findTries 165 = .ok (.if_icmp .ge 8, 3) := by decide +kernel
theorem dX8_findTries_168 : decode cX8_findTries 168 = .ok (.iload 6, 2) := by decide +kernel
theorem dX8_findTries_170 : decode cX8_findTries 170 = .ok (.goto 5, 3) := by decide +kernel
theorem dX8_findTries_173 : decode cX8_findTries 173 = .ok (.iload 4, 2) := by decide +kernel
theorem dX8_findTries_175 : decode cX8_findTries 175 = .ok (.istore 4, 2) := by decide +kernel
theorem dX8_findTries_177 : decode cX8_findTries 177 = .ok (.iinc 5 1, 3) := by decide +kernel
theorem dX8_findTries_180 : decode cX8_findTries 180 = .ok (.goto (-54), 3) := by decide +kernel
theorem dX8_findTries_183 : decode cX8_findTries 183 = .ok (.aload_n 0, 1) := by decide +kernel
theorem dX8_findTries_184 : decode cX8_findTries 184 = .ok (.getfield 45, 3) := by decide +kernel
theorem dX8_findTries_187 : decode cX8_findTries 187 = .ok (.bipush 41, 2) := by decide +kernel
theorem dX8_findTries_189 : decode cX8_findTries 189 = .ok (.iload_n 3, 1) := by decide +kernel
theorem dX8_findTries_190 : decode cX8_findTries 190 = .ok (.bipush 20, 2) := by decide +kernel
theorem dX8_findTries_192 : decode cX8_findTries 192 = .ok (.isub, 1) := by decide +kernel
theorem dX8_findTries_193 : decode cX8_findTries 193 = .ok (.imul, 1) := by decide +kernel
theorem dX8_findTries_194 : decode cX8_findTries 194 = .ok (.iload_n 3, 1) := by decide +kernel
theorem dX8_findTries_195 : decode cX8_findTries 195 = .ok (.iadd, 1) := by decide +kernel
theorem dX8_findTries_196 : decode cX8_findTries 196 = .ok (.iload_n 2, 1) := by decide +kernel
theorem dX8_findTries_197 : decode cX8_findTries 197 = .ok (.iadd, 1) := by decide +kernel
theorem dX8_findTries_198 : decode cX8_findTries 198 = .ok (.bipush 20, 2) := by decide +kernel
theorem dX8_findTries_200 : decode cX8_findTries 200 = .ok (.isub, 1) := by decide +kernel
theorem dX8_findTries_201 : decode cX8_findTries 201 = .ok (.iload 4, 2) := by decide +kernel
theorem dX8_findTries_203 : decode cX8_findTries 203 = .ok (.iastore, 1) := by decide +kernel
theorem dX8_findTries_204 : decode cX8_findTries 204 = .ok (.iinc 3 1, 3) := by decide +kernel
theorem dX8_findTries_207 : decode cX8_findTries 207 = .ok (.goto (-96), 3) := by decide +kernel
theorem dX8_findTries_210 : decode cX8_findTries 210 = .ok (.iinc 2 1, 3) := by decide +kernel
theorem dX8_findTries_213 : decode cX8_findTries 213 = .ok (.goto (-111), 3) := by decide +kernel
theorem dX8_findTries_216 : decode cX8_findTries 216 = .ok (.return_, 1) := by decide +kernel
theorem dX8_tries_0 : decode cX8_tries 0 = .ok (.iload_n 1, 1) := by decide +kernel
theorem dX8_tries_1 : decode cX8_tries 1 = .ok (.i2l, 1) := by decide +kernel
theorem dX8_tries_2 : decode cX8_tries 2 = .ok (.lconst 0, 1) := by decide +kernel
theorem dX8_tries_3 : decode cX8_tries 3 = .ok (.lconst 1, 1) := by decide +kernel
theorem dX8_tries_4 : decode cX8_tries 4 = .ok (.invokestatic 85, 3) := by decide +kernel
theorem dX8_tries_7 : decode cX8_tries 7 = .ok (.ifCond .eq 33, 3) := by decide +kernel
theorem dX8_tries_10 : decode cX8_tries 10 = .ok (.iload_n 2, 1) := by decide +kernel
theorem dX8_tries_11 : decode cX8_tries 11 = .ok (.i2l, 1) := by decide +kernel
theorem dX8_tries_12 : decode cX8_tries 12 = .ok (.ldc2_w 94, 3) := by decide +kernel
theorem dX8_tries_15 : decode cX8_tries 15 = .ok (.iload_n 3, 1) := by decide +kernel
theorem dX8_tries_16 : decode cX8_tries 16 = .ok (.i2l, 1) := by decide +kernel
theorem dX8_tries_17 : decode cX8_tries 17 = .ok (.invokestatic 85, 3) := by decide +kernel
theorem dX8_tries_20 : decode cX8_tries 20 = .ok (.ifCond .eq 20, 3) := by decide +kernel
theorem dX8_tries_23 : decode cX8_tries 23 = .ok (.iload_n 3, 1) := by decide +kernel
theorem dX8_tries_24 : decode cX8_tries 24 = .ok (.bipush 60, 2) := by decide +kernel
theorem dX8_tries_26 : decode cX8_tries 26 = .ok (.if_icmp .gt 14, 3) := by decide +kernel
theorem dX8_tries_29 : decode cX8_tries 29 = .ok (.iload 4, 2) := by decide +kernel
theorem dX8_tries_31 : decode cX8_tries 31 = .ok (.i2l, 1) := by decide +kernel
theorem dX8_tries_32 : decode cX8_tries 32 = .ok (.lconst 0, 1) := by decide +kernel
theorem dX8_tries_33 : decode cX8_tries 33 = .ok (.lconst 1, 1) := by decide +kernel
theorem dX8_tries_34 : decode cX8_tries 34 = .ok (.invokestatic 85, 3) := by decide +kernel
theorem dX8_tries_37 : decode cX8_tries 37 = .ok (.ifCond .ne 5, 3) := by decide +kernel
theorem dX8_tries_40 : decode cX8_tries 40 = .ok (.iconst (-1), 1) := by decide +kernel
theorem dX8_tries_41 : decode cX8_tries 41 = .ok (.ireturn, 1) := by decide +kernel
theorem dX8_tries_42 : decode cX8_tries 42 = .ok (.aload_n 0, 1) := by decide +kernel
theorem dX8_tries_43 : decode cX8_tries 43 = .ok (.iload_n 1, 1) := by decide +kernel
theorem dX8_tries_44 : decode cX8_tries 44 = .ok (.invokevirtual 215, 3) := by decide +kernel
theorem dX8_tries_47 : decode cX8_tries 47 = .ok (.aload_n 0, 1) := by decide +kernel
theorem dX8_tries_48 : decode cX8_tries 48 = .ok (.iload_n 2, 1) := by decide +kernel
theorem dX8_tries_49 : decode cX8_tries 49 = .ok (.iload_n 3, 1) := by decide +kernel
theorem dX8_tries_50 : decode cX8_tries 50 = .ok (.invokevirtual 209, 3) := by decide +kernel
theorem dX8_tries_53 : decode cX8_tries 53 = .ok (.istore 5, 2) := by decide +kernel
theorem dX8_tries_55 : decode cX8_tries 55 = .ok (.iload 4, 2) := by decide +kernel
theorem dX8_tries_57 : decode cX8_tries 57 = .ok (.ifCond .ne 18, 3) := by decide +kernel
theorem dX8_tries_60 : decode cX8_tries 60 = .ok (.iload 5, 2) := by decide +kernel
theorem dX8_tries_62 : decode cX8_tries 62 = .ok (.ldc 192, 2) := by decide +kernel
theorem dX8_tries_64 : decode cX8_tries 64 = .ok (.if_icmp .lt 8, 3) := by decide +kernel
theorem dX8_tries_67 : decode cX8_tries 67 = .ok (.bipush (-4), 2) := by decide +kernel
theorem dX8_tries_69 : decode cX8_tries 69 = .ok (.goto 5, 3) := by decide +kernel
theorem dX8_tries_72 : decode cX8_tries 72 = .ok (.iload 5, 2) := by decide +kernel
theorem dX8_tries_74 : decode cX8_tries 74 = .ok (.ireturn, 1) := by decide +kernel
theorem dX8_tries_75 : decode cX8_tries 75 = .ok (.iload 5, 2) := by decide +kernel
theorem dX8_tries_77 : decode cX8_tries 77 = .ok (.ldc 192, 2) := by decide +kernel
theorem dX8_tries_79 : decode cX8_tries 79 = .ok (.if_icmp .ge 8, 3) := by decide +kernel
theorem dX8_tries_82 : decode cX8_tries 82 = .ok (.iload 5, 2) := by decide +kernel
theorem dX8_tries_84 : decode cX8_tries 84 = .ok (.ifCond .ne 6, 3) := by decide +kernel
theorem dX8_tries_87 : decode cX8_tries 87 = .ok (.bipush (-4), 2) := by decide +kernel
theorem dX8_tries_89 : decode cX8_tries 89 = .ok (.ireturn, 1) := by decide +kernel
theorem dX8_tries_90 : decode cX8_tries 90 = .ok (.iload_n 2, 1) := by decide +kernel
theorem dX8_tries_91 : decode cX8_tries 91 = .ok (.istore 6, 2) := by decide +kernel
theorem dX8_tries_93 : decode cX8_tries 93 = .ok (.aload_n 0, 1) := by decide +kernel
theorem dX8_tries_94 : decode cX8_tries 94 = .ok (.getfield 42, 3) := by decide +kernel
theorem dX8_tries_97 : decode cX8_tries 97 = .ok (.iload 6, 2) := by decide +kernel
theorem dX8_tries_99 : decode cX8_tries 99 = .ok (.baload, 1) := by decide +kernel
theorem dX8_tries_100 : decode cX8_tries 100 = .ok (.ifCond .eq 16, 3) := by decide +kernel
theorem dX8_tries_103 : decode cX8_tries 103 = .ok (.aload_n 0, 1) := by decide +kernel
theorem dX8_tries_104 : decode cX8_tries 104 = .ok (.iload_n 2, 1) := by decide +kernel
theorem dX8_tries_105 : decode cX8_tries 105 = .ok (.iload_n 3, 1) := by decide +kernel
theorem dX8_tries_106 : decode cX8_tries 106 = .ok (.iload 6, 2) := by decide +kernel
theorem dX8_tries_108 : decode cX8_tries 108 = .ok (.invokevirtual 212, 3) := by decide +kernel
theorem dX8_tries_111 : decode cX8_tries 111 = .ok (.iload 5, 2) := by decide +kernel
theorem dX8_tries_113 : decode cX8_tries 113 = .ok (.if_icmp .eq 9, 3) := by decide +kernel
theorem dX8_tries_116 : decode cX8_tries 116 = .ok (.iinc 6 1, 3) := by decide +kernel
theorem dX8_tries_119 : decode cX8_tries 119 = .ok (.goto (-26), 3) := by decide +kernel
theorem dX8_tries_122 : decode cX8_tries 122 = .ok (.iload 6, 2) := by decide +kernel
theorem dX8_tries_124 : decode cX8_tries 124 = .ok (.ireturn, 1) := by decide +kernel
theorem dX8_image_0 : decode cX8_image 0 = .ok (.iconst 0, 1) := by decide +kernel
theorem dX8_image_1 : decode cX8_image 1 = .ok (.istore_n 1, 1) := by decide +kernel
theorem dX8_image_2 : decode cX8_image 2 = .ok (.iload_n 1, 1) := by decide +kernel
theorem dX8_image_3 : decode cX8_image 3 = .ok (.bipush 28, 2) := by decide +kernel
theorem dX8_image_5 : decode cX8_image 5 = .ok (.if_icmp .ge 21, 3) := by decide +kernel
theorem dX8_image_8 : decode cX8_image 8 = .ok (.aload_n 0, 1) := by decide +kernel
theorem dX8_image_9 : decode cX8_image 9 = .ok (.getfield 48, 3) := by decide +kernel
theorem dX8_image_12 : decode cX8_image 12 = .ok (.iload_n 1, 1) := by decide +kernel
theorem dX8_image_13 : decode cX8_image 13 = .ok (.aload_n 0, 1) := by decide +kernel
theorem dX8_image_14 : decode cX8_image 14 = .ok (.getfield 7, 3) := by decide +kernel
theorem dX8_image_17 : decode cX8_image 17 = .ok (.iload_n 1, 1) := by decide +kernel
theorem dX8_image_18 : decode cX8_image 18 = .ok (.iaload, 1) := by decide +kernel
theorem dX8_image_19 : decode cX8_image 19 = .ok (.iastore, 1) := by decide +kernel
theorem dX8_image_20 : decode cX8_image 20 = .ok (.iinc 1 1, 3) := by decide +kernel
theorem dX8_image_23 : decode cX8_image 23 = .ok (.goto (-21), 3) := by decide +kernel
theorem dX8_image_26 : decode cX8_image 26 = .ok (.iconst 0, 1) := by decide +kernel
theorem dX8_image_27 : decode cX8_image 27 = .ok (.istore_n 1, 1) := by decide +kernel
theorem dX8_image_28 : decode cX8_image 28 = .ok (.iload_n 1, 1) := by decide +kernel
theorem dX8_image_29 : decode cX8_image 29 = .ok (.bipush 64, 2) := by decide +kernel
theorem dX8_image_31 : decode cX8_image 31 = .ok (.if_icmp .ge 24, 3) := by decide +kernel
theorem dX8_image_34 : decode cX8_image 34 = .ok (.aload_n 0, 1) := by decide +kernel
theorem dX8_image_35 : decode cX8_image 35 = .ok (.getfield 48, 3) := by decide +kernel
theorem dX8_image_38 : decode cX8_image 38 = .ok (.bipush 28, 2) := by decide +kernel
theorem dX8_image_40 : decode cX8_image 40 = .ok (.iload_n 1, 1) := by decide +kernel
theorem dX8_image_41 : decode cX8_image 41 = .ok (.iadd, 1) := by decide +kernel
theorem dX8_image_42 : decode cX8_image 42 = .ok (.aload_n 0, 1) := by decide +kernel
theorem dX8_image_43 : decode cX8_image 43 = .ok (.getfield 13, 3) := by decide +kernel
theorem dX8_image_46 : decode cX8_image 46 = .ok (.iload_n 1, 1) := by decide +kernel
theorem dX8_image_47 : decode cX8_image 47 = .ok (.iaload, 1) := by decide +kernel
theorem dX8_image_48 : decode cX8_image 48 = .ok (.iastore, 1) := by decide +kernel
theorem dX8_image_49 : decode cX8_image 49 = .ok (.iinc 1 1, 3) := by decide +kernel
theorem dX8_image_52 : decode cX8_image 52 = .ok (.goto (-24), 3) := by decide +kernel
theorem dX8_image_55 : decode cX8_image 55 = .ok (.aload_n 0, 1) := by decide +kernel
theorem dX8_image_56 : decode cX8_image 56 = .ok (.getfield 48, 3) := by decide +kernel
theorem dX8_image_59 : decode cX8_image 59 = .ok (.bipush 92, 2) := by decide +kernel
theorem dX8_image_61 : decode cX8_image 61 = .ok (.aload_n 0, 1) := by decide +kernel
theorem dX8_image_62 : decode cX8_image 62 = .ok (.getfield 16, 3) := by decide +kernel
theorem dX8_image_65 : decode cX8_image 65 = .ok (.iconst 0, 1) := by decide +kernel
theorem dX8_image_66 : decode cX8_image 66 = .ok (.iaload, 1) := by decide +kernel
theorem dX8_image_67 : decode cX8_image 67 = .ok (.iastore, 1) := by decide +kernel
theorem dX8_image_68 : decode cX8_image 68 = .ok (.aload_n 0, 1) := by decide +kernel
theorem dX8_image_69 : decode cX8_image 69 = .ok (.getfield 48, 3) := by decide +kernel
theorem dX8_image_72 : decode cX8_image 72 = .ok (.bipush 93, 2) := by decide +kernel
theorem dX8_image_74 : decode cX8_image 74 = .ok (.aload_n 0, 1) := by decide +kernel
theorem dX8_image_75 : decode cX8_image 75 = .ok (.getfield 16, 3) := by decide +kernel
theorem dX8_image_78 : decode cX8_image 78 = .ok (.iconst 1, 1) := by decide +kernel
theorem dX8_image_79 : decode cX8_image 79 = .ok (.iaload, 1) := by decide +kernel
theorem dX8_image_80 : decode cX8_image 80 = .ok (.iastore, 1) := by decide +kernel
theorem dX8_image_81 : decode cX8_image 81 = .ok (.aload_n 0, 1) := by decide +kernel
theorem dX8_image_82 : decode cX8_image 82 = .ok (.aload_n 0, 1) := by decide +kernel
theorem dX8_image_83 : decode cX8_image 83 = .ok (.getfield 81, 3) := by decide +kernel
theorem dX8_image_86 : decode cX8_image 86 = .ok (.putfield 218, 3) := by decide +kernel
theorem dX8_image_89 : decode cX8_image 89 = .ok (.aload_n 0, 1) := by decide +kernel
theorem dX8_image_90 : decode cX8_image 90 = .ok (.aload_n 0, 1) := by decide +kernel
theorem dX8_image_91 : decode cX8_image 91 = .ok (.getfield 89, 3) := by decide +kernel
theorem dX8_image_94 : decode cX8_image 94 = .ok (.putfield 221, 3) := by decide +kernel
theorem dX8_image_97 : decode cX8_image 97 = .ok (.aload_n 0, 1) := by decide +kernel
theorem dX8_image_98 : decode cX8_image 98 = .ok (.iconst 1, 1) := by decide +kernel
theorem dX8_image_99 : decode cX8_image 99 = .ok (.putfield 224, 3) := by decide +kernel
theorem dX8_image_102 : decode cX8_image 102 = .ok (.iconst 1, 1) := by decide +kernel
theorem dX8_image_103 : decode cX8_image 103 = .ok (.ireturn, 1) := by decide +kernel
theorem dX8_restore_0 : decode cX8_restore 0 = .ok (.aload_n 0, 1) := by decide +kernel
theorem dX8_restore_1 : decode cX8_restore 1 = .ok (.getfield 224, 3) := by decide +kernel
theorem dX8_restore_4 : decode cX8_restore 4 = .ok (.ifCond .ne 6, 3) := by decide +kernel
theorem dX8_restore_7 : decode cX8_restore 7 = .ok (.bipush (-4), 2) := by decide +kernel
theorem dX8_restore_9 : decode cX8_restore 9 = .ok (.ireturn, 1) := by decide +kernel
theorem dX8_restore_10 : decode cX8_restore 10 = .ok (.iconst 0, 1) := by decide +kernel
theorem dX8_restore_11 : decode cX8_restore 11 = .ok (.istore_n 1, 1) := by decide +kernel
theorem dX8_restore_12 : decode cX8_restore 12 = .ok (.iload_n 1, 1) := by decide +kernel
theorem dX8_restore_13 : decode cX8_restore 13 = .ok (.bipush 28, 2) := by decide +kernel
theorem dX8_restore_15 : decode cX8_restore 15 = .ok (.if_icmp .ge 21, 3) := by decide +kernel
theorem dX8_restore_18 : decode cX8_restore 18 = .ok (.aload_n 0, 1) := by decide +kernel
theorem dX8_restore_19 : decode cX8_restore 19 = .ok (.getfield 7, 3) := by decide +kernel
theorem dX8_restore_22 : decode cX8_restore 22 = .ok (.iload_n 1, 1) := by decide +kernel
theorem dX8_restore_23 : decode cX8_restore 23 = .ok (.aload_n 0, 1) := by decide +kernel
theorem dX8_restore_24 : decode cX8_restore 24 = .ok (.getfield 48, 3) := by decide +kernel
theorem dX8_restore_27 : decode cX8_restore 27 = .ok (.iload_n 1, 1) := by decide +kernel
theorem dX8_restore_28 : decode cX8_restore 28 = .ok (.iaload, 1) := by decide +kernel
theorem dX8_restore_29 : decode cX8_restore 29 = .ok (.iastore, 1) := by decide +kernel
theorem dX8_restore_30 : decode cX8_restore 30 = .ok (.iinc 1 1, 3) := by decide +kernel
theorem dX8_restore_33 : decode cX8_restore 33 = .ok (.goto (-21), 3) := by decide +kernel
theorem dX8_restore_36 : decode cX8_restore 36 = .ok (.iconst 0, 1) := by decide +kernel
theorem dX8_restore_37 : decode cX8_restore 37 = .ok (.istore_n 1, 1) := by decide +kernel
theorem dX8_restore_38 : decode cX8_restore 38 = .ok (.iload_n 1, 1) := by decide +kernel
theorem dX8_restore_39 : decode cX8_restore 39 = .ok (.bipush 64, 2) := by decide +kernel
theorem dX8_restore_41 : decode cX8_restore 41 = .ok (.if_icmp .ge 24, 3) := by decide +kernel
theorem dX8_restore_44 : decode cX8_restore 44 = .ok (.aload_n 0, 1) := by decide +kernel
theorem dX8_restore_45 : decode cX8_restore 45 = .ok (.getfield 13, 3) := by decide +kernel
theorem dX8_restore_48 : decode cX8_restore 48 = .ok (.iload_n 1, 1) := by decide +kernel
theorem dX8_restore_49 : decode cX8_restore 49 = .ok (.aload_n 0, 1) := by decide +kernel
theorem dX8_restore_50 : decode cX8_restore 50 = .ok (.getfield 48, 3) := by decide +kernel
theorem dX8_restore_53 : decode cX8_restore 53 = .ok (.bipush 28, 2) := by decide +kernel
theorem dX8_restore_55 : decode cX8_restore 55 = .ok (.iload_n 1, 1) := by decide +kernel
theorem dX8_restore_56 : decode cX8_restore 56 = .ok (.iadd, 1) := by decide +kernel
theorem dX8_restore_57 : decode cX8_restore 57 = .ok (.iaload, 1) := by decide +kernel
theorem dX8_restore_58 : decode cX8_restore 58 = .ok (.iastore, 1) := by decide +kernel
theorem dX8_restore_59 : decode cX8_restore 59 = .ok (.iinc 1 1, 3) := by decide +kernel
theorem dX8_restore_62 : decode cX8_restore 62 = .ok (.goto (-24), 3) := by decide +kernel
theorem dX8_restore_65 : decode cX8_restore 65 = .ok (.aload_n 0, 1) := by decide +kernel
theorem dX8_restore_66 : decode cX8_restore 66 = .ok (.getfield 16, 3) := by decide +kernel
theorem dX8_restore_69 : decode cX8_restore 69 = .ok (.iconst 0, 1) := by decide +kernel
theorem dX8_restore_70 : decode cX8_restore 70 = .ok (.aload_n 0, 1) := by decide +kernel
theorem dX8_restore_71 : decode cX8_restore 71 = .ok (.getfield 48, 3) := by decide +kernel
theorem dX8_restore_74 : decode cX8_restore 74 = .ok (.bipush 92, 2) := by decide +kernel
theorem dX8_restore_76 : decode cX8_restore 76 = .ok (.iaload, 1) := by decide +kernel
theorem dX8_restore_77 : decode cX8_restore 77 = .ok (.iastore, 1) := by decide +kernel
theorem dX8_restore_78 : decode cX8_restore 78 = .ok (.aload_n 0, 1) := by decide +kernel
theorem dX8_restore_79 : decode cX8_restore 79 = .ok (.getfield 16, 3) := by decide +kernel
theorem dX8_restore_82 : decode cX8_restore 82 = .ok (.iconst 1, 1) := by decide +kernel
theorem dX8_restore_83 : decode cX8_restore 83 = .ok (.aload_n 0, 1) := by decide +kernel
theorem dX8_restore_84 : decode cX8_restore 84 = .ok (.getfield 48, 3) := by decide +kernel
theorem dX8_restore_87 : decode cX8_restore 87 = .ok (.bipush 93, 2) := by decide +kernel
theorem dX8_restore_89 : decode cX8_restore 89 = .ok (.iaload, 1) := by decide +kernel
theorem dX8_restore_90 : decode cX8_restore 90 = .ok (.iastore, 1) := by decide +kernel
theorem dX8_restore_91 : decode cX8_restore 91 = .ok (.aload_n 0, 1) := by decide +kernel
theorem dX8_restore_92 : decode cX8_restore 92 = .ok (.aload_n 0, 1) := by decide +kernel
theorem dX8_restore_93 : decode cX8_restore 93 = .ok (.getfield 218, 3) := by decide +kernel
theorem dX8_restore_96 : decode cX8_restore 96 = .ok (.putfield 81, 3) := by decide +kernel
theorem dX8_restore_99 : decode cX8_restore 99 = .ok (.aload_n 0, 1) := by decide +kernel
theorem dX8_restore_100 : decode cX8_restore 100 = .ok (.aload_n 0, 1) := by decide +kernel
theorem dX8_restore_101 : decode cX8_restore 101 = .ok (.getfield 221, 3) := by decide +kernel
theorem dX8_restore_104 : decode cX8_restore 104 = .ok (.putfield 89, 3) := by decide +kernel
theorem dX8_restore_107 : decode cX8_restore 107 = .ok (.iconst 1, 1) := by decide +kernel
theorem dX8_restore_108 : decode cX8_restore 108 = .ok (.ireturn, 1) := by decide +kernel
theorem dX8_isSheet_0 : decode cX8_isSheet 0 = .ok (.iload_n 0, 1) := by decide +kernel
theorem dX8_isSheet_1 : decode cX8_isSheet 1 = .ok (.i2l, 1) := by decide +kernel
theorem dX8_isSheet_2 : decode cX8_isSheet 2 = .ok (.lconst 0, 1) := by decide +kernel
theorem dX8_isSheet_3 : decode cX8_isSheet 3 = .ok (.ldc2_w 108, 3) := by decide +kernel
theorem dX8_isSheet_6 : decode cX8_isSheet 6 = .ok (.invokestatic 85, 3) := by decide +kernel
theorem dX8_isSheet_9 : decode cX8_isSheet 9 = .ok (.ifCond .eq 19, 3) := by decide +kernel
theorem dX8_isSheet_12 : decode cX8_isSheet 12 = .ok (.iload_n 1, 1) := by decide +kernel
theorem dX8_isSheet_13 : decode cX8_isSheet 13 = .ok (.i2l, 1) := by decide +kernel
theorem dX8_isSheet_14 : decode cX8_isSheet 14 = .ok (.lconst 0, 1) := by decide +kernel
theorem dX8_isSheet_15 : decode cX8_isSheet 15 = .ok (.ldc2_w 228, 3) := by decide +kernel
theorem dX8_isSheet_18 : decode cX8_isSheet 18 = .ok (.invokestatic 85, 3) := by decide +kernel
theorem dX8_isSheet_21 : decode cX8_isSheet 21 = .ok (.ifCond .eq 7, 3) := by decide +kernel
theorem dX8_isSheet_24 : decode cX8_isSheet 24 = .ok (.iconst 1, 1) := by decide +kernel
theorem dX8_isSheet_25 : decode cX8_isSheet 25 = .ok (.goto 4, 3) := by decide +kernel
theorem dX8_isSheet_28 : decode cX8_isSheet 28 = .ok (.iconst 0, 1) := by decide +kernel
theorem dX8_isSheet_29 : decode cX8_isSheet 29 = .ok (.ireturn, 1) := by decide +kernel
theorem dX8_sheet_0 : decode cX8_sheet 0 = .ok (.iload_n 1, 1) := by decide +kernel
theorem dX8_sheet_1 : decode cX8_sheet 1 = .ok (.iload_n 2, 1) := by decide +kernel
theorem dX8_sheet_2 : decode cX8_sheet 2 = .ok (.invokestatic 230, 3) := by decide +kernel
theorem dX8_sheet_5 : decode cX8_sheet 5 = .ok (.ifCond .eq 9, 3) := by decide +kernel
theorem dX8_sheet_8 : decode cX8_sheet 8 = .ok (.iload_n 3, 1) := by decide +kernel
theorem dX8_sheet_9 : decode cX8_sheet 9 = .ok (.bipush 100, 2) := by decide +kernel
theorem dX8_sheet_11 : decode cX8_sheet 11 = .ok (.if_icmp .le 5, 3) := by decide +kernel
theorem dX8_sheet_14 : decode cX8_sheet 14 = .ok (.iconst (-1), 1) := by decide +kernel
theorem dX8_sheet_15 : decode cX8_sheet 15 = .ok (.ireturn, 1) := by decide +kernel
theorem dX8_sheet_16 : decode cX8_sheet 16 = .ok (.iload_n 3, 1) := by decide +kernel
theorem dX8_sheet_17 : decode cX8_sheet 17 = .ok (.ifCond .ge 6, 3) := by decide +kernel
theorem dX8_sheet_20 : decode cX8_sheet 20 = .ok (.bipush (-14), 2) := by decide +kernel
theorem dX8_sheet_22 : decode cX8_sheet 22 = .ok (.ireturn, 1) := by decide +kernel
theorem dX8_sheet_23 : decode cX8_sheet 23 = .ok (.aload_n 0, 1) := by decide +kernel
theorem dX8_sheet_24 : decode cX8_sheet 24 = .ok (.getfield 51, 3) := by decide +kernel
theorem dX8_sheet_27 : decode cX8_sheet 27 = .ok (.iload_n 1, 1) := by decide +kernel
theorem dX8_sheet_28 : decode cX8_sheet 28 = .ok (.iload_n 2, 1) := by decide +kernel
theorem dX8_sheet_29 : decode cX8_sheet 29 = .ok (.iastore, 1) := by decide +kernel
theorem dX8_sheet_30 : decode cX8_sheet 30 = .ok (.aload_n 0, 1) := by decide +kernel
theorem dX8_sheet_31 : decode cX8_sheet 31 = .ok (.getfield 54, 3) := by decide +kernel
theorem dX8_sheet_34 : decode cX8_sheet 34 = .ok (.iload_n 1, 1) := by decide +kernel
theorem dX8_sheet_35 : decode cX8_sheet 35 = .ok (.iload_n 3, 1) := by decide +kernel
theorem dX8_sheet_36 : decode cX8_sheet 36 = .ok (.iastore, 1) := by decide +kernel
theorem dX8_sheet_37 : decode cX8_sheet 37 = .ok (.iconst 0, 1) := by decide +kernel
theorem dX8_sheet_38 : decode cX8_sheet 38 = .ok (.istore 4, 2) := by decide +kernel
theorem dX8_sheet_40 : decode cX8_sheet 40 = .ok (.iload 4, 2) := by decide +kernel
theorem dX8_sheet_42 : decode cX8_sheet 42 = .ok (.bipush 100, 2) := by decide +kernel
theorem dX8_sheet_44 : decode cX8_sheet 44 = .ok (.if_icmp .ge 22, 3) := by decide +kernel
theorem dX8_sheet_47 : decode cX8_sheet 47 = .ok (.aload_n 0, 1) := by decide +kernel
theorem dX8_sheet_48 : decode cX8_sheet 48 = .ok (.getfield 57, 3) := by decide +kernel
theorem dX8_sheet_51 : decode cX8_sheet 51 = .ok (.bipush 100, 2) := by decide +kernel
theorem dX8_sheet_53 : decode cX8_sheet 53 = .ok (.iload_n 1, 1) := by decide +kernel
theorem dX8_sheet_54 : decode cX8_sheet 54 = .ok (.imul, 1) := by decide +kernel
theorem dX8_sheet_55 : decode cX8_sheet 55 = .ok (.iload 4, 2) := by decide +kernel
theorem dX8_sheet_57 : decode cX8_sheet 57 = .ok (.iadd, 1) := by decide +kernel
theorem dX8_sheet_58 : decode cX8_sheet 58 = .ok (.iconst 0, 1) := by decide +kernel
theorem dX8_sheet_59 : decode cX8_sheet 59 = .ok (.iastore, 1) := by decide +kernel
theorem dX8_sheet_60 : decode cX8_sheet 60 = .ok (.iinc 4 1, 3) := by decide +kernel
theorem dX8_sheet_63 : decode cX8_sheet 63 = .ok (.goto (-23), 3) := by decide +kernel
theorem dX8_sheet_66 : decode cX8_sheet 66 = .ok (.iload_n 3, 1) := by decide +kernel
theorem dX8_sheet_67 : decode cX8_sheet 67 = .ok (.ireturn, 1) := by decide +kernel
theorem dX8_drop_0 : decode cX8_drop 0 = .ok (.iload_n 1, 1) := by decide +kernel
theorem dX8_drop_1 : decode cX8_drop 1 = .ok (.i2l, 1) := by decide +kernel
theorem dX8_drop_2 : decode cX8_drop 2 = .ok (.lconst 0, 1) := by decide +kernel
theorem dX8_drop_3 : decode cX8_drop 3 = .ok (.ldc2_w 108, 3) := by decide +kernel
theorem dX8_drop_6 : decode cX8_drop 6 = .ok (.invokestatic 85, 3) := by decide +kernel
theorem dX8_drop_9 : decode cX8_drop 9 = .ok (.ifCond .ne 5, 3) := by decide +kernel
theorem dX8_drop_12 : decode cX8_drop 12 = .ok (.iconst (-1), 1) := by decide +kernel
theorem dX8_drop_13 : decode cX8_drop 13 = .ok (.ireturn, 1) := by decide +kernel
theorem dX8_drop_14 : decode cX8_drop 14 = .ok (.aload_n 0, 1) := by decide +kernel
theorem dX8_drop_15 : decode cX8_drop 15 = .ok (.getfield 51, 3) := by decide +kernel
theorem dX8_drop_18 : decode cX8_drop 18 = .ok (.iload_n 1, 1) := by decide +kernel
theorem dX8_drop_19 : decode cX8_drop 19 = .ok (.iaload, 1) := by decide +kernel
theorem dX8_drop_20 : decode cX8_drop 20 = .ok (.ifCond .ge 6, 3) := by decide +kernel
theorem dX8_drop_23 : decode cX8_drop 23 = .ok (.bipush (-11), 2) := by decide +kernel
theorem dX8_drop_25 : decode cX8_drop 25 = .ok (.ireturn, 1) := by decide +kernel
theorem dX8_drop_26 : decode cX8_drop 26 = .ok (.aload_n 0, 1) := by decide +kernel
theorem dX8_drop_27 : decode cX8_drop 27 = .ok (.getfield 51, 3) := by decide +kernel
theorem dX8_drop_30 : decode cX8_drop 30 = .ok (.iload_n 1, 1) := by decide +kernel
theorem dX8_drop_31 : decode cX8_drop 31 = .ok (.iconst (-1), 1) := by decide +kernel
theorem dX8_drop_32 : decode cX8_drop 32 = .ok (.iastore, 1) := by decide +kernel
theorem dX8_drop_33 : decode cX8_drop 33 = .ok (.aload_n 0, 1) := by decide +kernel
theorem dX8_drop_34 : decode cX8_drop 34 = .ok (.getfield 54, 3) := by decide +kernel
theorem dX8_drop_37 : decode cX8_drop 37 = .ok (.iload_n 1, 1) := by decide +kernel
theorem dX8_drop_38 : decode cX8_drop 38 = .ok (.iaload, 1) := by decide +kernel
theorem dX8_drop_39 : decode cX8_drop 39 = .ok (.ireturn, 1) := by decide +kernel
theorem dX8_lacksRow_0 : decode cX8_lacksRow 0 = .ok (.aload_n 0, 1) := by decide +kernel
theorem dX8_lacksRow_1 : decode cX8_lacksRow 1 = .ok (.getfield 51, 3) := by decide +kernel
theorem dX8_lacksRow_4 : decode cX8_lacksRow 4 = .ok (.iload_n 1, 1) := by decide +kernel
theorem dX8_lacksRow_5 : decode cX8_lacksRow 5 = .ok (.iaload, 1) := by decide +kernel
theorem dX8_lacksRow_6 : decode cX8_lacksRow 6 = .ok (.iload_n 2, 1) := by decide +kernel
theorem dX8_lacksRow_7 : decode cX8_lacksRow 7 = .ok (.if_icmp .eq 20, 3) := by decide +kernel
theorem dX8_lacksRow_10 : decode cX8_lacksRow 10 = .ok (.aload_n 0, 1) := by decide +kernel
theorem dX8_lacksRow_11 : decode cX8_lacksRow 11 = .ok (.getfield 51, 3) := by decide +kernel
theorem dX8_lacksRow_14 : decode cX8_lacksRow 14 = .ok (.iload_n 1, 1) := by decide +kernel
theorem dX8_lacksRow_15 : decode cX8_lacksRow 15 = .ok (.iaload, 1) := by decide +kernel
theorem dX8_lacksRow_16 : decode cX8_lacksRow 16 = .ok (.ifCond .ge 8, 3) := by decide +kernel
theorem dX8_lacksRow_19 : decode cX8_lacksRow 19 = .ok (.bipush (-11), 2) := by decide +kernel
theorem dX8_lacksRow_21 : decode cX8_lacksRow 21 = .ok (.goto 5, 3) := by decide +kernel
theorem dX8_lacksRow_24 : decode cX8_lacksRow 24 = .ok (.bipush (-12), 2) := by decide +kernel
theorem dX8_lacksRow_26 : decode cX8_lacksRow 26 = .ok (.ireturn, 1) := by decide +kernel
theorem dX8_lacksRow_27 : decode cX8_lacksRow 27 = .ok (.iload_n 3, 1) := by decide +kernel
theorem dX8_lacksRow_28 : decode cX8_lacksRow 28 = .ok (.i2l, 1) := by decide +kernel
theorem dX8_lacksRow_29 : decode cX8_lacksRow 29 = .ok (.lconst 0, 1) := by decide +kernel
theorem dX8_lacksRow_30 : decode cX8_lacksRow 30 = .ok (.aload_n 0, 1) := by decide +kernel
theorem dX8_lacksRow_31 : decode cX8_lacksRow 31 = .ok (.getfield 54, 3) := by decide +kernel
theorem dX8_lacksRow_34 : decode cX8_lacksRow 34 = .ok (.iload_n 1, 1) := by decide +kernel
theorem dX8_lacksRow_35 : decode cX8_lacksRow 35 = .ok (.iaload, 1) := by decide +kernel
theorem dX8_lacksRow_36 : decode cX8_lacksRow 36 = .ok (.iload 4, 2) := by decide +kernel
theorem dX8_lacksRow_38 : decode cX8_lacksRow 38 = .ok (.isub, 1) := by decide +kernel
theorem dX8_lacksRow_39 : decode cX8_lacksRow 39 = .ok (.i2l, 1) := by decide +kernel
theorem dX8_lacksRow_40 : decode cX8_lacksRow 40 = .ok (.invokestatic 85, 3) := by decide +kernel
theorem dX8_lacksRow_43 : decode cX8_lacksRow 43 = .ok (.ifCond .eq 7, 3) := by decide +kernel
theorem dX8_lacksRow_46 : decode cX8_lacksRow 46 = .ok (.iconst 0, 1) := by decide +kernel
theorem dX8_lacksRow_47 : decode cX8_lacksRow 47 = .ok (.goto 5, 3) := by decide +kernel
theorem dX8_lacksRow_50 : decode cX8_lacksRow 50 = .ok (.bipush (-13), 2) := by decide +kernel
theorem dX8_lacksRow_52 : decode cX8_lacksRow 52 = .ok (.ireturn, 1) := by decide +kernel
theorem dX8_item_0 : decode cX8_item 0 = .ok (.iload_n 1, 1) := by decide +kernel
theorem dX8_item_1 : decode cX8_item 1 = .ok (.iload_n 2, 1) := by decide +kernel
theorem dX8_item_2 : decode cX8_item 2 = .ok (.invokestatic 230, 3) := by decide +kernel
theorem dX8_item_5 : decode cX8_item 5 = .ok (.ifCond .ne 5, 3) := by decide +kernel
theorem dX8_item_8 : decode cX8_item 8 = .ok (.iconst (-1), 1) := by decide +kernel
theorem dX8_item_9 : decode cX8_item 9 = .ok (.ireturn, 1) := by decide +kernel
theorem dX8_item_10 : decode cX8_item 10 = .ok (.aload_n 0, 1) := by decide +kernel
theorem dX8_item_11 : decode cX8_item 11 = .ok (.iload_n 1, 1) := by decide +kernel
theorem dX8_item_12 : decode cX8_item 12 = .ok (.iload_n 2, 1) := by decide +kernel
theorem dX8_item_13 : decode cX8_item 13 = .ok (.iload_n 3, 1) := by decide +kernel
theorem dX8_item_14 : decode cX8_item 14 = .ok (.iconst 1, 1) := by decide +kernel
theorem dX8_item_15 : decode cX8_item 15 = .ok (.invokevirtual 233, 3) := by decide +kernel
theorem dX8_item_18 : decode cX8_item 18 = .ok (.istore 5, 2) := by decide +kernel
theorem dX8_item_20 : decode cX8_item 20 = .ok (.iload 5, 2) := by decide +kernel
theorem dX8_item_22 : decode cX8_item 22 = .ok (.ifCond .ge 6, 3) := by decide +kernel
theorem dX8_item_25 : decode cX8_item 25 = .ok (.iload 5, 2) := by decide +kernel
theorem dX8_item_27 : decode cX8_item 27 = .ok (.ireturn, 1) := by decide +kernel
theorem dX8_item_28 : decode cX8_item 28 = .ok (.aload_n 0, 1) := by decide +kernel
theorem dX8_item_29 : decode cX8_item 29 = .ok (.getfield 57, 3) := by decide +kernel
theorem dX8_item_32 : decode cX8_item 32 = .ok (.bipush 100, 2) := by decide +kernel
theorem dX8_item_34 : decode cX8_item 34 = .ok (.iload_n 1, 1) := by decide +kernel
theorem dX8_item_35 : decode cX8_item 35 = .ok (.imul, 1) := by decide +kernel
theorem dX8_item_36 : decode cX8_item 36 = .ok (.iload_n 3, 1) := by decide +kernel
theorem dX8_item_37 : decode cX8_item 37 = .ok (.iadd, 1) := by decide +kernel
theorem dX8_item_38 : decode cX8_item 38 = .ok (.iload_n 2, 1) := by decide +kernel
theorem dX8_item_39 : decode cX8_item 39 = .ok (.ifCond .ne 14, 3) := by decide +kernel
theorem dX8_item_42 : decode cX8_item 42 = .ok (.iload 4, 2) := by decide +kernel
theorem dX8_item_44 : decode cX8_item 44 = .ok (.bipush 24, 2) := by decide +kernel
theorem dX8_item_46 : decode cX8_item 46 = .ok (.ishl, 1) := by decide +kernel
theorem dX8_item_47 : decode cX8_item 47 = .ok (.bipush 24, 2) := by decide +kernel
theorem dX8_item_49 : decode cX8_item 49 = .ok (.ishr, 1) := by decide +kernel
theorem dX8_item_50 : decode cX8_item 50 = .ok (.goto 21, 3) := by decide +kernel
theorem dX8_item_53 : decode cX8_item 53 = .ok (.iload_n 2, 1) := by decide +kernel
theorem dX8_item_54 : decode cX8_item 54 = .ok (.iconst 1, 1) := by decide +kernel
theorem dX8_item_55 : decode cX8_item 55 = .ok (.if_icmp .ne 14, 3) := by decide +kernel
theorem dX8_item_58 : decode cX8_item 58 = .ok (.iload 4, 2) := by decide +kernel
theorem dX8_item_60 : decode cX8_item 60 = .ok (.bipush 16, 2) := by decide +kernel
theorem dX8_item_62 : decode cX8_item 62 = .ok (.ishl, 1) := by decide +kernel
theorem dX8_item_63 : decode cX8_item 63 = .ok (.bipush 16, 2) := by decide +kernel
theorem dX8_item_65 : decode cX8_item 65 = .ok (.ishr, 1) := by decide +kernel
theorem dX8_item_66 : decode cX8_item 66 = .ok (.goto 5, 3) := by decide +kernel
theorem dX8_item_69 : decode cX8_item 69 = .ok (.iload 4, 2) := by decide +kernel
theorem dX8_item_71 : decode cX8_item 71 = .ok (.iastore, 1) := by decide +kernel
theorem dX8_item_72 : decode cX8_item 72 = .ok (.iconst 1, 1) := by decide +kernel
theorem dX8_item_73 : decode cX8_item 73 = .ok (.ireturn, 1) := by decide +kernel
theorem dX8_copy_0 : decode cX8_copy 0 = .ok (.iload_n 1, 1) := by decide +kernel
theorem dX8_copy_1 : decode cX8_copy 1 = .ok (.i2l, 1) := by decide +kernel
theorem dX8_copy_2 : decode cX8_copy 2 = .ok (.lconst 0, 1) := by decide +kernel
theorem dX8_copy_3 : decode cX8_copy 3 = .ok (.ldc2_w 108, 3) := by decide +kernel
theorem dX8_copy_6 : decode cX8_copy 6 = .ok (.invokestatic 85, 3) := by decide +kernel
theorem dX8_copy_9 : decode cX8_copy 9 = .ok (.ifCond .eq 15, 3) := by decide +kernel
theorem dX8_copy_12 : decode cX8_copy 12 = .ok (.iload_n 3, 1) := by decide +kernel
theorem dX8_copy_13 : decode cX8_copy 13 = .ok (.i2l, 1) := by decide +kernel
theorem dX8_copy_14 : decode cX8_copy 14 = .ok (.lconst 0, 1) := by decide +kernel
theorem dX8_copy_15 : decode cX8_copy 15 = .ok (.ldc2_w 108, 3) := by decide +kernel
theorem dX8_copy_18 : decode cX8_copy 18 = .ok (.invokestatic 85, 3) := by decide +kernel
theorem dX8_copy_21 : decode cX8_copy 21 = .ok (.ifCond .ne 5, 3) := by decide +kernel
theorem dX8_copy_24 : decode cX8_copy 24 = .ok (.iconst (-1), 1) := by decide +kernel
theorem dX8_copy_25 : decode cX8_copy 25 = .ok (.ireturn, 1) := by decide +kernel
theorem dX8_copy_26 : decode cX8_copy 26 = .ok (.aload_n 0, 1) := by decide +kernel
theorem dX8_copy_27 : decode cX8_copy 27 = .ok (.getfield 51, 3) := by decide +kernel
theorem dX8_copy_30 : decode cX8_copy 30 = .ok (.iload_n 1, 1) := by decide +kernel
theorem dX8_copy_31 : decode cX8_copy 31 = .ok (.iaload, 1) := by decide +kernel
theorem dX8_copy_32 : decode cX8_copy 32 = .ok (.ifCond .lt 12, 3) := by decide +kernel
theorem dX8_copy_35 : decode cX8_copy 35 = .ok (.aload_n 0, 1) := by decide +kernel
theorem dX8_copy_36 : decode cX8_copy 36 = .ok (.getfield 51, 3) := by decide +kernel
theorem dX8_copy_39 : decode cX8_copy 39 = .ok (.iload_n 3, 1) := by decide +kernel
theorem dX8_copy_40 : decode cX8_copy 40 = .ok (.iaload, 1) := by decide +kernel
theorem dX8_copy_41 : decode cX8_copy 41 = .ok (.ifCond .ge 6, 3) := by decide +kernel
theorem dX8_copy_44 : decode cX8_copy 44 = .ok (.bipush (-11), 2) := by decide +kernel
theorem dX8_copy_46 : decode cX8_copy 46 = .ok (.ireturn, 1) := by decide +kernel
theorem dX8_copy_47 : decode cX8_copy 47 = .ok (.aload_n 0, 1) := by decide +kernel
theorem dX8_copy_48 : decode cX8_copy 48 = .ok (.getfield 51, 3) := by decide +kernel
theorem dX8_copy_51 : decode cX8_copy 51 = .ok (.iload_n 1, 1) := by decide +kernel
theorem dX8_copy_52 : decode cX8_copy 52 = .ok (.iaload, 1) := by decide +kernel
theorem dX8_copy_53 : decode cX8_copy 53 = .ok (.aload_n 0, 1) := by decide +kernel
theorem dX8_copy_54 : decode cX8_copy 54 = .ok (.getfield 51, 3) := by decide +kernel
theorem dX8_copy_57 : decode cX8_copy 57 = .ok (.iload_n 3, 1) := by decide +kernel
theorem dX8_copy_58 : decode cX8_copy 58 = .ok (.iaload, 1) := by decide +kernel
theorem dX8_copy_59 : decode cX8_copy 59 = .ok (.if_icmp .eq 6, 3) := by decide +kernel
theorem dX8_copy_62 : decode cX8_copy 62 = .ok (.bipush (-12), 2) := by decide +kernel
theorem dX8_copy_64 : decode cX8_copy 64 = .ok (.ireturn, 1) := by decide +kernel
theorem dX8_copy_65 : decode cX8_copy 65 = .ok (.iload 5, 2) := by decide +kernel
theorem dX8_copy_67 : decode cX8_copy 67 = .ok (.ifCond .lt 44, 3) := by decide +kernel
theorem dX8_copy_70 : decode cX8_copy 70 = .ok (.iload_n 2, 1) := by decide +kernel
theorem dX8_copy_71 : decode cX8_copy 71 = .ok (.i2l, 1) := by decide +kernel
theorem dX8_copy_72 : decode cX8_copy 72 = .ok (.lconst 0, 1) := by decide +kernel
theorem dX8_copy_73 : decode cX8_copy 73 = .ok (.aload_n 0, 1) := by decide +kernel
theorem dX8_copy_74 : decode cX8_copy 74 = .ok (.getfield 54, 3) := by decide +kernel
theorem dX8_copy_77 : decode cX8_copy 77 = .ok (.iload_n 1, 1) := by decide +kernel
theorem dX8_copy_78 : decode cX8_copy 78 = .ok (.iaload, 1) := by decide +kernel
theorem dX8_copy_79 : decode cX8_copy 79 = .ok (.i2l, 1) := by decide +kernel
theorem dX8_copy_80 : decode cX8_copy 80 = .ok (.iload 5, 2) := by decide +kernel
theorem dX8_copy_82 : decode cX8_copy 82 = .ok (.i2l, 1) := by decide +kernel
theorem dX8_copy_83 : decode cX8_copy 83 = .ok (.lsub, 1) := by decide +kernel
theorem dX8_copy_84 : decode cX8_copy 84 = .ok (.invokestatic 85, 3) := by decide +kernel
theorem dX8_copy_87 : decode cX8_copy 87 = .ok (.ifCond .eq 24, 3) := by decide +kernel
theorem dX8_copy_90 : decode cX8_copy 90 = .ok (.iload 4, 2) := by decide +kernel
theorem dX8_copy_92 : decode cX8_copy 92 = .ok (.i2l, 1) := by decide +kernel
theorem dX8_copy_93 : decode cX8_copy 93 = .ok (.lconst 0, 1) := by decide +kernel
theorem dX8_copy_94 : decode cX8_copy 94 = .ok (.aload_n 0, 1) := by decide +kernel
theorem dX8_copy_95 : decode cX8_copy 95 = .ok (.getfield 54, 3) := by decide +kernel
theorem dX8_copy_98 : decode cX8_copy 98 = .ok (.iload_n 3, 1) := by decide +kernel
theorem dX8_copy_99 : decode cX8_copy 99 = .ok (.iaload, 1) := by decide +kernel
theorem dX8_copy_100 : decode cX8_copy 100 = .ok (.i2l, 1) := by decide +kernel
theorem dX8_copy_101 : decode cX8_copy 101 = .ok (.iload 5, 2) := by decide +kernel
theorem dX8_copy_103 : decode cX8_copy 103 = .ok (.i2l, 1) := by decide +kernel
theorem dX8_copy_104 : decode cX8_copy 104 = .ok (.lsub, 1) := by decide +kernel
theorem dX8_copy_105 : decode cX8_copy 105 = .ok (.invokestatic 85, 3) := by decide +kernel
theorem dX8_copy_108 : decode cX8_copy 108 = .ok (.ifCond .ne 6, 3) := by decide +kernel
theorem dX8_copy_111 : decode cX8_copy 111 = .ok (.bipush (-13), 2) := by decide +kernel
theorem dX8_copy_113 : decode cX8_copy 113 = .ok (.ireturn, 1) := by decide +kernel
theorem dX8_copy_114 : decode cX8_copy 114 = .ok (.iconst 0, 1) := by decide +kernel
theorem dX8_copy_115 : decode cX8_copy 115 = .ok (.istore 6, 2) := by decide +kernel
theorem dX8_copy_117 : decode cX8_copy 117 = .ok (.iload 6, 2) := by decide +kernel
theorem dX8_copy_119 : decode cX8_copy 119 = .ok (.iload 5, 2) := by decide +kernel
theorem dX8_copy_121 : decode cX8_copy 121 = .ok (.if_icmp .ge 30, 3) := by decide +kernel
theorem dX8_copy_124 : decode cX8_copy 124 = .ok (.aload_n 0, 1) := by decide +kernel
theorem dX8_copy_125 : decode cX8_copy 125 = .ok (.getfield 60, 3) := by decide +kernel
theorem dX8_copy_128 : decode cX8_copy 128 = .ok (.iload 6, 2) := by decide +kernel
theorem dX8_copy_130 : decode cX8_copy 130 = .ok (.aload_n 0, 1) := by decide +kernel
theorem dX8_copy_131 : decode cX8_copy 131 = .ok (.getfield 57, 3) := by decide +kernel
theorem dX8_copy_134 : decode cX8_copy 134 = .ok (.bipush 100, 2) := by decide +kernel
theorem dX8_copy_136 : decode cX8_copy 136 = .ok (.iload_n 1, 1) := by decide +kernel
theorem dX8_copy_137 : decode cX8_copy 137 = .ok (.imul, 1) := by decide +kernel
theorem dX8_copy_138 : decode cX8_copy 138 = .ok (.iload_n 2, 1) := by decide +kernel
theorem dX8_copy_139 : decode cX8_copy 139 = .ok (.iadd, 1) := by decide +kernel
theorem dX8_copy_140 : decode cX8_copy 140 = .ok (.iload 6, 2) := by decide +kernel
theorem dX8_copy_142 : decode cX8_copy 142 = .ok (.iadd, 1) := by decide +kernel
theorem dX8_copy_143 : decode cX8_copy 143 = .ok (.iaload, 1) := by decide +kernel
theorem dX8_copy_144 : decode cX8_copy 144 = .ok (.iastore, 1) := by decide +kernel
theorem dX8_copy_145 : decode cX8_copy 145 = .ok (.iinc 6 1, 3) := by decide +kernel
theorem dX8_copy_148 : decode cX8_copy 148 = .ok (.goto (-31), 3) := by decide +kernel
theorem dX8_copy_151 : decode cX8_copy 151 = .ok (.iconst 0, 1) := by decide +kernel
theorem dX8_copy_152 : decode cX8_copy 152 = .ok (.istore 6, 2) := by decide +kernel
theorem dX8_copy_154 : decode cX8_copy 154 = .ok (.iload 6, 2) := by decide +kernel
theorem dX8_copy_156 : decode cX8_copy 156 = .ok (.iload 5, 2) := by decide +kernel
theorem dX8_copy_158 : decode cX8_copy 158 = .ok (.if_icmp .ge 31, 3) := by decide +kernel
theorem dX8_copy_161 : decode cX8_copy 161 = .ok (.aload_n 0, 1) := by decide +kernel
theorem dX8_copy_162 : decode cX8_copy 162 = .ok (.getfield 57, 3) := by decide +kernel
theorem dX8_copy_165 : decode cX8_copy 165 = .ok (.bipush 100, 2) := by decide +kernel
theorem dX8_copy_167 : decode cX8_copy 167 = .ok (.iload_n 3, 1) := by decide +kernel
theorem dX8_copy_168 : decode cX8_copy 168 = .ok (.imul, 1) := by decide +kernel
theorem dX8_copy_169 : decode cX8_copy 169 = .ok (.iload 4, 2) := by decide +kernel
theorem dX8_copy_171 : decode cX8_copy 171 = .ok (.iadd, 1) := by decide +kernel
