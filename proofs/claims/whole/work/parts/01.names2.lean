theorem dX6_addShoe_111 : decode cX6_addShoe 111 = .ok (.laload, 1) := by decide +kernel
theorem dX6_addShoe_112 : decode cX6_addShoe 112 = .ok (.ladd, 1) := by decide +kernel
theorem dX6_addShoe_113 : decode cX6_addShoe 113 = .ok (.lastore, 1) := by decide +kernel
theorem dX6_addShoe_114 : decode cX6_addShoe 114 = .ok (.iinc 4 1, 3) := by decide +kernel
theorem dX6_addShoe_117 : decode cX6_addShoe 117 = .ok (.goto (-104), 3) := by decide +kernel
theorem dX6_addShoe_120 : decode cX6_addShoe 120 = .ok (.iinc 3 (-1), 3) := by decide +kernel
theorem dX6_addShoe_123 : decode cX6_addShoe 123 = .ok (.goto (-117), 3) := by decide +kernel
theorem dX6_addShoe_126 : decode cX6_addShoe 126 = .ok (.return_, 1) := by decide +kernel
theorem dX7_init_0 : decode cX7_init 0 = .ok (.aload_n 0, 1) := by decide +kernel
theorem dX7_init_1 : decode cX7_init 1 = .ok (.invokespecial 1, 3) := by decide +kernel
theorem dX7_init_4 : decode cX7_init 4 = .ok (.aload_n 0, 1) := by decide +kernel
theorem dX7_init_5 : decode cX7_init 5 = .ok (.new 7, 3) := by decide +kernel
theorem dX7_init_8 : decode cX7_init 8 = .ok (.dup, 1) := by decide +kernel
theorem dX7_init_9 : decode cX7_init 9 = .ok (.invokespecial 9, 3) := by decide +kernel
theorem dX7_init_12 : decode cX7_init 12 = .ok (.putfield 10, 3) := by decide +kernel
theorem dX7_init_15 : decode cX7_init 15 = .ok (.aload_n 0, 1) := by decide +kernel
theorem dX7_init_16 : decode cX7_init 16 = .ok (.new 7, 3) := by decide +kernel
theorem dX7_init_19 : decode cX7_init 19 = .ok (.dup, 1) := by decide +kernel
theorem dX7_init_20 : decode cX7_init 20 = .ok (.invokespecial 9, 3) := by decide +kernel
theorem dX7_init_23 : decode cX7_init 23 = .ok (.putfield 16, 3) := by decide +kernel
theorem dX7_init_26 : decode cX7_init 26 = .ok (.aload_n 0, 1) := by decide +kernel
theorem dX7_init_27 : decode cX7_init 27 = .ok (.iconst 0, 1) := by decide +kernel
theorem dX7_init_28 : decode cX7_init 28 = .ok (.putfield 19, 3) := by decide +kernel
theorem dX7_init_31 : decode cX7_init 31 = .ok (.aload_n 0, 1) := by decide +kernel
theorem dX7_init_32 : decode cX7_init 32 = .ok (.new 23, 3) := by decide +kernel
theorem dX7_init_35 : decode cX7_init 35 = .ok (.dup, 1) := by decide +kernel
theorem dX7_init_36 : decode cX7_init 36 = .ok (.invokespecial 25, 3) := by decide +kernel
theorem dX7_init_39 : decode cX7_init 39 = .ok (.putfield 26, 3) := by decide +kernel
theorem dX7_init_42 : decode cX7_init 42 = .ok (.aload_n 0, 1) := by decide +kernel
theorem dX7_init_43 : decode cX7_init 43 = .ok (.new 30, 3) := by decide +kernel
theorem dX7_init_46 : decode cX7_init 46 = .ok (.dup, 1) := by decide +kernel
theorem dX7_init_47 : decode cX7_init 47 = .ok (.invokespecial 32, 3) := by decide +kernel
theorem dX7_init_50 : decode cX7_init 50 = .ok (.putfield 33, 3) := by decide +kernel
theorem dX7_init_53 : decode cX7_init 53 = .ok (.aload_n 0, 1) := by decide +kernel
theorem dX7_init_54 : decode cX7_init 54 = .ok (.new 37, 3) := by decide +kernel
theorem dX7_init_57 : decode cX7_init 57 = .ok (.dup, 1) := by decide +kernel
theorem dX7_init_58 : decode cX7_init 58 = .ok (.invokespecial 39, 3) := by decide +kernel
theorem dX7_init_61 : decode cX7_init 61 = .ok (.putfield 40, 3) := by decide +kernel
theorem dX7_init_64 : decode cX7_init 64 = .ok (.aload_n 0, 1) := by decide +kernel
theorem dX7_init_65 : decode cX7_init 65 = .ok (.new 44, 3) := by decide +kernel
theorem dX7_init_68 : decode cX7_init 68 = .ok (.dup, 1) := by decide +kernel
theorem dX7_init_69 : decode cX7_init 69 = .ok (.invokespecial 46, 3) := by decide +kernel
theorem dX7_init_72 : decode cX7_init 72 = .ok (.putfield 47, 3) := by decide +kernel
theorem dX7_init_75 : decode cX7_init 75 = .ok (.aload_n 0, 1) := by decide +kernel
theorem dX7_init_76 : decode cX7_init 76 = .ok (.new 51, 3) := by decide +kernel
theorem dX7_init_79 : decode cX7_init 79 = .ok (.dup, 1) := by decide +kernel
theorem dX7_init_80 : decode cX7_init 80 = .ok (.invokespecial 53, 3) := by decide +kernel
theorem dX7_init_83 : decode cX7_init 83 = .ok (.putfield 54, 3) := by decide +kernel
theorem dX7_init_86 : decode cX7_init 86 = .ok (.aload_n 0, 1) := by decide +kernel
theorem dX7_init_87 : decode cX7_init 87 = .ok (.iconst 4, 1) := by decide +kernel
theorem dX7_init_88 : decode cX7_init 88 = .ok (.anewarray 58, 3) := by decide +kernel
theorem dX7_init_91 : decode cX7_init 91 = .ok (.putfield 60, 3) := by decide +kernel
theorem dX7_init_94 : decode cX7_init 94 = .ok (.iconst 0, 1) := by decide +kernel
theorem dX7_init_95 : decode cX7_init 95 = .ok (.istore_n 1, 1) := by decide +kernel
theorem dX7_init_96 : decode cX7_init 96 = .ok (.iload_n 1, 1) := by decide +kernel
theorem dX7_init_97 : decode cX7_init 97 = .ok (.iconst 4, 1) := by decide +kernel
theorem dX7_init_98 : decode cX7_init 98 = .ok (.if_icmp .ge 22, 3) := by decide +kernel
theorem dX7_init_101 : decode cX7_init 101 = .ok (.aload_n 0, 1) := by decide +kernel
theorem dX7_init_102 : decode cX7_init 102 = .ok (.getfield 60, 3) := by decide +kernel
theorem dX7_init_105 : decode cX7_init 105 = .ok (.iload_n 1, 1) := by decide +kernel
theorem dX7_init_106 : decode cX7_init 106 = .ok (.new 58, 3) := by decide +kernel
theorem dX7_init_109 : decode cX7_init 109 = .ok (.dup, 1) := by decide +kernel
theorem dX7_init_110 : decode cX7_init 110 = .ok (.invokespecial 64, 3) := by decide +kernel
theorem dX7_init_113 : decode cX7_init 113 = .ok (.aastore, 1) := by decide +kernel
theorem dX7_init_114 : decode cX7_init 114 = .ok (.iinc 1 1, 3) := by decide +kernel
theorem dX7_init_117 : decode cX7_init 117 = .ok (.goto (-21), 3) := by decide +kernel
theorem dX7_init_120 : decode cX7_init 120 = .ok (.return_, 1) := by decide +kernel
theorem dX7_bride_0 : decode cX7_bride 0 = .ok (.iconst 0, 1) := by decide +kernel
theorem dX7_bride_1 : decode cX7_bride 1 = .ok (.iload_n 1, 1) := by decide +kernel
theorem dX7_bride_2 : decode cX7_bride 2 = .ok (.invokestatic 65, 3) := by decide +kernel
theorem dX7_bride_5 : decode cX7_bride 5 = .ok (.ifCond .eq 11, 3) := by decide +kernel
theorem dX7_bride_8 : decode cX7_bride 8 = .ok (.iconst 1, 1) := by decide +kernel
theorem dX7_bride_9 : decode cX7_bride 9 = .ok (.iload_n 2, 1) := by decide +kernel
theorem dX7_bride_10 : decode cX7_bride 10 = .ok (.invokestatic 65, 3) := by decide +kernel
theorem dX7_bride_13 : decode cX7_bride 13 = .ok (.ifCond .ne 5, 3) := by decide +kernel
theorem dX7_bride_16 : decode cX7_bride 16 = .ok (.iconst (-1), 1) := by decide +kernel
theorem dX7_bride_17 : decode cX7_bride 17 = .ok (.ireturn, 1) := by decide +kernel
theorem dX7_bride_18 : decode cX7_bride 18 = .ok (.iconst 2, 1) := by decide +kernel
theorem dX7_bride_19 : decode cX7_bride 19 = .ok (.iload_n 3, 1) := by decide +kernel
theorem dX7_bride_20 : decode cX7_bride 20 = .ok (.invokestatic 65, 3) := by decide +kernel
theorem dX7_bride_23 : decode cX7_bride 23 = .ok (.ifCond .eq 12, 3) := by decide +kernel
theorem dX7_bride_26 : decode cX7_bride 26 = .ok (.iconst 3, 1) := by decide +kernel
theorem dX7_bride_27 : decode cX7_bride 27 = .ok (.iload 4, 2) := by decide +kernel
theorem dX7_bride_29 : decode cX7_bride 29 = .ok (.invokestatic 65, 3) := by decide +kernel
theorem dX7_bride_32 : decode cX7_bride 32 = .ok (.ifCond .ne 5, 3) := by decide +kernel
theorem dX7_bride_35 : decode cX7_bride 35 = .ok (.iconst (-1), 1) := by decide +kernel
theorem dX7_bride_36 : decode cX7_bride 36 = .ok (.ireturn, 1) := by decide +kernel
theorem dX7_bride_37 : decode cX7_bride 37 = .ok (.aload_n 0, 1) := by decide +kernel
theorem dX7_bride_38 : decode cX7_bride 38 = .ok (.getfield 10, 3) := by decide +kernel
theorem dX7_bride_41 : decode cX7_bride 41 = .ok (.getfield 69, 3) := by decide +kernel
theorem dX7_bride_44 : decode cX7_bride 44 = .ok (.bipush 7, 2) := by decide +kernel
theorem dX7_bride_46 : decode cX7_bride 46 = .ok (.if_icmp .lt 6, 3) := by decide +kernel
theorem dX7_bride_49 : decode cX7_bride 49 = .ok (.bipush (-3), 2) := by decide +kernel
theorem dX7_bride_51 : decode cX7_bride 51 = .ok (.ireturn, 1) := by decide +kernel
theorem dX7_bride_52 : decode cX7_bride 52 = .ok (.aload_n 0, 1) := by decide +kernel
theorem dX7_bride_53 : decode cX7_bride 53 = .ok (.getfield 10, 3) := by decide +kernel
theorem dX7_bride_56 : decode cX7_bride 56 = .ok (.getfield 73, 3) := by decide +kernel
theorem dX7_bride_59 : decode cX7_bride 59 = .ok (.aload_n 0, 1) := by decide +kernel
theorem dX7_bride_60 : decode cX7_bride 60 = .ok (.getfield 10, 3) := by decide +kernel
theorem dX7_bride_63 : decode cX7_bride 63 = .ok (.getfield 69, 3) := by decide +kernel
theorem dX7_bride_66 : decode cX7_bride 66 = .ok (.aaload, 1) := by decide +kernel
theorem dX7_bride_67 : decode cX7_bride 67 = .ok (.astore 5, 2) := by decide +kernel
theorem dX7_bride_69 : decode cX7_bride 69 = .ok (.aload 5, 2) := by decide +kernel
theorem dX7_bride_71 : decode cX7_bride 71 = .ok (.iconst 0, 1) := by decide +kernel
theorem dX7_bride_72 : decode cX7_bride 72 = .ok (.iload_n 1, 1) := by decide +kernel
theorem dX7_bride_73 : decode cX7_bride 73 = .ok (.iastore, 1) := by decide +kernel
theorem dX7_bride_74 : decode cX7_bride 74 = .ok (.aload 5, 2) := by decide +kernel
theorem dX7_bride_76 : decode cX7_bride 76 = .ok (.iconst 1, 1) := by decide +kernel
theorem dX7_bride_77 : decode cX7_bride 77 = .ok (.iload_n 2, 1) := by decide +kernel
theorem dX7_bride_78 : decode cX7_bride 78 = .ok (.iastore, 1) := by decide +kernel
theorem dX7_bride_79 : decode cX7_bride 79 = .ok (.aload 5, 2) := by decide +kernel
theorem dX7_bride_81 : decode cX7_bride 81 = .ok (.iconst 2, 1) := by decide +kernel
theorem dX7_bride_82 : decode cX7_bride 82 = .ok (.iload_n 3, 1) := by decide +kernel
theorem dX7_bride_83 : decode cX7_bride 83 = .ok (.iastore, 1) := by decide +kernel
theorem dX7_bride_84 : decode cX7_bride 84 = .ok (.aload 5, 2) := by decide +kernel
theorem dX7_bride_86 : decode cX7_bride 86 = .ok (.iconst 3, 1) := by decide +kernel
theorem dX7_bride_87 : decode cX7_bride 87 = .ok (.iload 4, 2) := by decide +kernel
theorem dX7_bride_89 : decode cX7_bride 89 = .ok (.iastore, 1) := by decide +kernel
theorem dX7_bride_90 : decode cX7_bride 90 = .ok (.aload_n 0, 1) := by decide +kernel
theorem dX7_bride_91 : decode cX7_bride 91 = .ok (.getfield 10, 3) := by decide +kernel
theorem dX7_bride_94 : decode cX7_bride 94 = .ok (.dup, 1) := by decide +kernel
theorem dX7_bride_95 : decode cX7_bride 95 = .ok (.getfield 69, 3) := by decide +kernel
theorem dX7_bride_98 : decode cX7_bride 98 = .ok (.dup_x1, 1) := by decide +kernel
theorem dX7_bride_99 : decode cX7_bride 99 = .ok (.iconst 1, 1) := by decide +kernel
theorem dX7_bride_100 : decode cX7_bride 100 = .ok (.iadd, 1) := by decide +kernel
theorem dX7_bride_101 : decode cX7_bride 101 = .ok (.putfield 69, 3) := by decide +kernel
theorem dX7_bride_104 : decode cX7_bride 104 = .ok (.ireturn, 1) := by decide +kernel
theorem dX7_make_0 : decode cX7_make 0 = .ok (.aload_n 0, 1) := by decide +kernel
theorem dX7_make_1 : decode cX7_make 1 = .ok (.iload_n 1, 1) := by decide +kernel
theorem dX7_make_2 : decode cX7_make 2 = .ok (.invokevirtual 77, 3) := by decide +kernel
theorem dX7_make_5 : decode cX7_make 5 = .ok (.ifCond .eq 20, 3) := by decide +kernel
theorem dX7_make_8 : decode cX7_make 8 = .ok (.iload_n 2, 1) := by decide +kernel
theorem dX7_make_9 : decode cX7_make 9 = .ok (.iconst 0, 1) := by decide +kernel
theorem dX7_make_10 : decode cX7_make 10 = .ok (.iconst 3, 1) := by decide +kernel
theorem dX7_make_11 : decode cX7_make 11 = .ok (.invokestatic 81, 3) := by decide +kernel
theorem dX7_make_14 : decode cX7_make 14 = .ok (.ifCond .eq 11, 3) := by decide +kernel
theorem dX7_make_17 : decode cX7_make 17 = .ok (.iload_n 2, 1) := by decide +kernel
theorem dX7_make_18 : decode cX7_make 18 = .ok (.iload_n 3, 1) := by decide +kernel
theorem dX7_make_19 : decode cX7_make 19 = .ok (.invokestatic 65, 3) := by decide +kernel
theorem dX7_make_22 : decode cX7_make 22 = .ok (.ifCond .ne 5, 3) := by decide +kernel
theorem dX7_make_25 : decode cX7_make 25 = .ok (.iconst (-1), 1) := by decide +kernel
theorem dX7_make_26 : decode cX7_make 26 = .ok (.ireturn, 1) := by decide +kernel
theorem dX7_make_27 : decode cX7_make 27 = .ok (.aload_n 0, 1) := by decide +kernel
theorem dX7_make_28 : decode cX7_make 28 = .ok (.getfield 10, 3) := by decide +kernel
theorem dX7_make_31 : decode cX7_make 31 = .ok (.getfield 73, 3) := by decide +kernel
theorem dX7_make_34 : decode cX7_make 34 = .ok (.iload_n 1, 1) := by decide +kernel
theorem dX7_make_35 : decode cX7_make 35 = .ok (.aaload, 1) := by decide +kernel
theorem dX7_make_36 : decode cX7_make 36 = .ok (.iload_n 2, 1) := by decide +kernel
theorem dX7_make_37 : decode cX7_make 37 = .ok (.iaload, 1) := by decide +kernel
theorem dX7_make_38 : decode cX7_make 38 = .ok (.istore 4, 2) := by decide +kernel
theorem dX7_make_40 : decode cX7_make 40 = .ok (.aload_n 0, 1) := by decide +kernel
theorem dX7_make_41 : decode cX7_make 41 = .ok (.getfield 10, 3) := by decide +kernel
theorem dX7_make_44 : decode cX7_make 44 = .ok (.getfield 73, 3) := by decide +kernel
theorem dX7_make_47 : decode cX7_make 47 = .ok (.iload_n 1, 1) := by decide +kernel
theorem dX7_make_48 : decode cX7_make 48 = .ok (.aaload, 1) := by decide +kernel
theorem dX7_make_49 : decode cX7_make 49 = .ok (.iload_n 2, 1) := by decide +kernel
theorem dX7_make_50 : decode cX7_make 50 = .ok (.iload_n 3, 1) := by decide +kernel
theorem dX7_make_51 : decode cX7_make 51 = .ok (.iastore, 1) := by decide +kernel
theorem dX7_make_52 : decode cX7_make 52 = .ok (.iload 4, 2) := by decide +kernel
theorem dX7_make_54 : decode cX7_make 54 = .ok (.ireturn, 1) := by decide +kernel
theorem dX7_shoe_0 : decode cX7_shoe 0 = .ok (.iconst 0, 1) := by decide +kernel
theorem dX7_shoe_1 : decode cX7_shoe 1 = .ok (.iload_n 1, 1) := by decide +kernel
theorem dX7_shoe_2 : decode cX7_shoe 2 = .ok (.invokestatic 85, 3) := by decide +kernel
theorem dX7_shoe_5 : decode cX7_shoe 5 = .ok (.ifCond .eq 19, 3) := by decide +kernel
theorem dX7_shoe_8 : decode cX7_shoe 8 = .ok (.iconst 1, 1) := by decide +kernel
theorem dX7_shoe_9 : decode cX7_shoe 9 = .ok (.iload_n 2, 1) := by decide +kernel
theorem dX7_shoe_10 : decode cX7_shoe 10 = .ok (.invokestatic 85, 3) := by decide +kernel
theorem dX7_shoe_13 : decode cX7_shoe 13 = .ok (.ifCond .eq 11, 3) := by decide +kernel
theorem dX7_shoe_16 : decode cX7_shoe 16 = .ok (.iconst 2, 1) := by decide +kernel
theorem dX7_shoe_17 : decode cX7_shoe 17 = .ok (.iload_n 3, 1) := by decide +kernel
theorem dX7_shoe_18 : decode cX7_shoe 18 = .ok (.invokestatic 85, 3) := by decide +kernel
theorem dX7_shoe_21 : decode cX7_shoe 21 = .ok (.ifCond .ne 5, 3) := by decide +kernel
theorem dX7_shoe_24 : decode cX7_shoe 24 = .ok (.iconst (-1), 1) := by decide +kernel
theorem dX7_shoe_25 : decode cX7_shoe 25 = .ok (.ireturn, 1) := by decide +kernel
theorem dX7_shoe_26 : decode cX7_shoe 26 = .ok (.aload_n 0, 1) := by decide +kernel
theorem dX7_shoe_27 : decode cX7_shoe 27 = .ok (.getfield 10, 3) := by decide +kernel
theorem dX7_shoe_30 : decode cX7_shoe 30 = .ok (.getfield 88, 3) := by decide +kernel
theorem dX7_shoe_33 : decode cX7_shoe 33 = .ok (.bipush 16, 2) := by decide +kernel
theorem dX7_shoe_35 : decode cX7_shoe 35 = .ok (.if_icmp .lt 6, 3) := by decide +kernel
theorem dX7_shoe_38 : decode cX7_shoe 38 = .ok (.bipush (-3), 2) := by decide +kernel
theorem dX7_shoe_40 : decode cX7_shoe 40 = .ok (.ireturn, 1) := by decide +kernel
theorem dX7_shoe_41 : decode cX7_shoe 41 = .ok (.aload_n 0, 1) := by decide +kernel
theorem dX7_shoe_42 : decode cX7_shoe 42 = .ok (.getfield 10, 3) := by decide +kernel
theorem dX7_shoe_45 : decode cX7_shoe 45 = .ok (.getfield 91, 3) := by decide +kernel
theorem dX7_shoe_48 : decode cX7_shoe 48 = .ok (.aload_n 0, 1) := by decide +kernel
theorem dX7_shoe_49 : decode cX7_shoe 49 = .ok (.getfield 10, 3) := by decide +kernel
theorem dX7_shoe_52 : decode cX7_shoe 52 = .ok (.getfield 88, 3) := by decide +kernel
theorem dX7_shoe_55 : decode cX7_shoe 55 = .ok (.aaload, 1) := by decide +kernel
theorem dX7_shoe_56 : decode cX7_shoe 56 = .ok (.astore 4, 2) := by decide +kernel
theorem dX7_shoe_58 : decode cX7_shoe 58 = .ok (.aload 4, 2) := by decide +kernel
theorem dX7_shoe_60 : decode cX7_shoe 60 = .ok (.iconst 0, 1) := by decide +kernel
theorem dX7_shoe_61 : decode cX7_shoe 61 = .ok (.iload_n 1, 1) := by decide +kernel
theorem dX7_shoe_62 : decode cX7_shoe 62 = .ok (.iastore, 1) := by decide +kernel
theorem dX7_shoe_63 : decode cX7_shoe 63 = .ok (.aload 4, 2) := by decide +kernel
theorem dX7_shoe_65 : decode cX7_shoe 65 = .ok (.iconst 1, 1) := by decide +kernel
theorem dX7_shoe_66 : decode cX7_shoe 66 = .ok (.iload_n 2, 1) := by decide +kernel
theorem dX7_shoe_67 : decode cX7_shoe 67 = .ok (.iastore, 1) := by decide +kernel
theorem dX7_shoe_68 : decode cX7_shoe 68 = .ok (.aload 4, 2) := by decide +kernel
theorem dX7_shoe_70 : decode cX7_shoe 70 = .ok (.iconst 2, 1) := by decide +kernel
theorem dX7_shoe_71 : decode cX7_shoe 71 = .ok (.iload_n 3, 1) := by decide +kernel
theorem dX7_shoe_72 : decode cX7_shoe 72 = .ok (.iastore, 1) := by decide +kernel
theorem dX7_shoe_73 : decode cX7_shoe 73 = .ok (.aload 4, 2) := by decide +kernel
theorem dX7_shoe_75 : decode cX7_shoe 75 = .ok (.iconst 3, 1) := by decide +kernel
theorem dX7_shoe_76 : decode cX7_shoe 76 = .ok (.iconst 0, 1) := by decide +kernel
theorem dX7_shoe_77 : decode cX7_shoe 77 = .ok (.iastore, 1) := by decide +kernel
theorem dX7_shoe_78 : decode cX7_shoe 78 = .ok (.aload_n 0, 1) := by decide +kernel
theorem dX7_shoe_79 : decode cX7_shoe 79 = .ok (.getfield 10, 3) := by decide +kernel
theorem dX7_shoe_82 : decode cX7_shoe 82 = .ok (.dup, 1) := by decide +kernel
theorem dX7_shoe_83 : decode cX7_shoe 83 = .ok (.getfield 88, 3) := by decide +kernel
theorem dX7_shoe_86 : decode cX7_shoe 86 = .ok (.dup_x1, 1) := by decide +kernel
theorem dX7_shoe_87 : decode cX7_shoe 87 = .ok (.iconst 1, 1) := by decide +kernel
theorem dX7_shoe_88 : decode cX7_shoe 88 = .ok (.iadd, 1) := by decide +kernel
theorem dX7_shoe_89 : decode cX7_shoe 89 = .ok (.putfield 88, 3) := by decide +kernel
theorem dX7_shoe_92 : decode cX7_shoe 92 = .ok (.ireturn, 1) := by decide +kernel
theorem dX7_told_0 : decode cX7_told 0 = .ok (.aload_n 0, 1) := by decide +kernel
theorem dX7_told_1 : decode cX7_told 1 = .ok (.iload_n 1, 1) := by decide +kernel
theorem dX7_told_2 : decode cX7_told 2 = .ok (.invokevirtual 94, 3) := by decide +kernel
theorem dX7_told_5 : decode cX7_told 5 = .ok (.ifCond .eq 12, 3) := by decide +kernel
theorem dX7_told_8 : decode cX7_told 8 = .ok (.iload_n 2, 1) := by decide +kernel
theorem dX7_told_9 : decode cX7_told 9 = .ok (.iconst 0, 1) := by decide +kernel
theorem dX7_told_10 : decode cX7_told 10 = .ok (.iconst 3, 1) := by decide +kernel
theorem dX7_told_11 : decode cX7_told 11 = .ok (.invokestatic 81, 3) := by decide +kernel
theorem dX7_told_14 : decode cX7_told 14 = .ok (.ifCond .ne 5, 3) := by decide +kernel
theorem dX7_told_17 : decode cX7_told 17 = .ok (.iconst (-1), 1) := by decide +kernel
theorem dX7_told_18 : decode cX7_told 18 = .ok (.ireturn, 1) := by decide +kernel
theorem dX7_told_19 : decode cX7_told 19 = .ok (.aload_n 0, 1) := by decide +kernel
theorem dX7_told_20 : decode cX7_told 20 = .ok (.getfield 10, 3) := by decide +kernel
theorem dX7_told_23 : decode cX7_told 23 = .ok (.getfield 91, 3) := by decide +kernel
theorem dX7_told_26 : decode cX7_told 26 = .ok (.iload_n 1, 1) := by decide +kernel
theorem dX7_told_27 : decode cX7_told 27 = .ok (.aaload, 1) := by decide +kernel
theorem dX7_told_28 : decode cX7_told 28 = .ok (.iload_n 2, 1) := by decide +kernel
theorem dX7_told_29 : decode cX7_told 29 = .ok (.iaload, 1) := by decide +kernel
theorem dX7_told_30 : decode cX7_told 30 = .ok (.ireturn, 1) := by decide +kernel
theorem dX7_lose_0 : decode cX7_lose 0 = .ok (.aload_n 0, 1) := by decide +kernel
theorem dX7_lose_1 : decode cX7_lose 1 = .ok (.iload_n 1, 1) := by decide +kernel
theorem dX7_lose_2 : decode cX7_lose 2 = .ok (.invokevirtual 94, 3) := by decide +kernel
theorem dX7_lose_5 : decode cX7_lose 5 = .ok (.ifCond .ne 5, 3) := by decide +kernel
theorem dX7_lose_8 : decode cX7_lose 8 = .ok (.iconst (-1), 1) := by decide +kernel
theorem dX7_lose_9 : decode cX7_lose 9 = .ok (.ireturn, 1) := by decide +kernel
theorem dX7_lose_10 : decode cX7_lose 10 = .ok (.aload_n 0, 1) := by decide +kernel
theorem dX7_lose_11 : decode cX7_lose 11 = .ok (.getfield 10, 3) := by decide +kernel
theorem dX7_lose_14 : decode cX7_lose 14 = .ok (.getfield 91, 3) := by decide +kernel
theorem dX7_lose_17 : decode cX7_lose 17 = .ok (.iload_n 1, 1) := by decide +kernel
theorem dX7_lose_18 : decode cX7_lose 18 = .ok (.aaload, 1) := by decide +kernel
theorem dX7_lose_19 : decode cX7_lose 19 = .ok (.iconst 3, 1) := by decide +kernel
theorem dX7_lose_20 : decode cX7_lose 20 = .ok (.iaload, 1) := by decide +kernel
theorem dX7_lose_21 : decode cX7_lose 21 = .ok (.istore_n 3, 1) := by decide +kernel
theorem dX7_lose_22 : decode cX7_lose 22 = .ok (.aload_n 0, 1) := by decide +kernel
theorem dX7_lose_23 : decode cX7_lose 23 = .ok (.getfield 10, 3) := by decide +kernel
theorem dX7_lose_26 : decode cX7_lose 26 = .ok (.getfield 91, 3) := by decide +kernel
theorem dX7_lose_29 : decode cX7_lose 29 = .ok (.iload_n 1, 1) := by decide +kernel
theorem dX7_lose_30 : decode cX7_lose 30 = .ok (.aaload, 1) := by decide +kernel
theorem dX7_lose_31 : decode cX7_lose 31 = .ok (.iconst 3, 1) := by decide +kernel
theorem dX7_lose_32 : decode cX7_lose 32 = .ok (.iload_n 2, 1) := by decide +kernel
theorem dX7_lose_33 : decode cX7_lose 33 = .ok (.ifCond .eq 7, 3) := by decide +kernel
theorem dX7_lose_36 : decode cX7_lose 36 = .ok (.iconst 1, 1) := by decide +kernel
theorem dX7_lose_37 : decode cX7_lose 37 = .ok (.goto 4, 3) := by decide +kernel
theorem dX7_lose_40 : decode cX7_lose 40 = .ok (.iconst 0, 1) := by decide +kernel
theorem dX7_lose_41 : decode cX7_lose 41 = .ok (.iastore, 1) := by decide +kernel
theorem dX7_lose_42 : decode cX7_lose 42 = .ok (.iload_n 3, 1) := by decide +kernel
theorem dX7_lose_43 : decode cX7_lose 43 = .ok (.ireturn, 1) := by decide +kernel
theorem dX7_set_0 : decode cX7_set 0 = .ok (.iload_n 1, 1) := by decide +kernel
theorem dX7_set_1 : decode cX7_set 1 = .ok (.iconst 0, 1) := by decide +kernel
theorem dX7_set_2 : decode cX7_set 2 = .ok (.iconst 1, 1) := by decide +kernel
theorem dX7_set_3 : decode cX7_set 3 = .ok (.invokestatic 81, 3) := by decide +kernel
theorem dX7_set_6 : decode cX7_set 6 = .ok (.ifCond .eq 13, 3) := by decide +kernel
theorem dX7_set_9 : decode cX7_set 9 = .ok (.iload_n 2, 1) := by decide +kernel
theorem dX7_set_10 : decode cX7_set 10 = .ok (.iconst 0, 1) := by decide +kernel
theorem dX7_set_11 : decode cX7_set 11 = .ok (.bipush 6, 2) := by decide +kernel
theorem dX7_set_13 : decode cX7_set 13 = .ok (.invokestatic 81, 3) := by decide +kernel
theorem dX7_set_16 : decode cX7_set 16 = .ok (.ifCond .ne 5, 3) := by decide +kernel
theorem dX7_set_19 : decode cX7_set 19 = .ok (.iconst (-1), 1) := by decide +kernel
theorem dX7_set_20 : decode cX7_set 20 = .ok (.ireturn, 1) := by decide +kernel
theorem dX7_set_21 : decode cX7_set 21 = .ok (.aload_n 0, 1) := by decide +kernel
theorem dX7_set_22 : decode cX7_set 22 = .ok (.getfield 10, 3) := by decide +kernel
theorem dX7_set_25 : decode cX7_set 25 = .ok (.getfield 97, 3) := by decide +kernel
theorem dX7_set_28 : decode cX7_set 28 = .ok (.iload_n 1, 1) := by decide +kernel
theorem dX7_set_29 : decode cX7_set 29 = .ok (.iaload, 1) := by decide +kernel
theorem dX7_set_30 : decode cX7_set 30 = .ok (.istore_n 3, 1) := by decide +kernel
theorem dX7_set_31 : decode cX7_set 31 = .ok (.aload_n 0, 1) := by decide +kernel
theorem dX7_set_32 : decode cX7_set 32 = .ok (.getfield 10, 3) := by decide +kernel
theorem dX7_set_35 : decode cX7_set 35 = .ok (.getfield 97, 3) := by decide +kernel
theorem dX7_set_38 : decode cX7_set 38 = .ok (.iload_n 1, 1) := by decide +kernel
theorem dX7_set_39 : decode cX7_set 39 = .ok (.iload_n 2, 1) := by decide +kernel
theorem dX7_set_40 : decode cX7_set 40 = .ok (.iastore, 1) := by decide +kernel
theorem dX7_set_41 : decode cX7_set 41 = .ok (.iload_n 3, 1) := by decide +kernel
theorem dX7_set_42 : decode cX7_set 42 = .ok (.ireturn, 1) := by decide +kernel
theorem dX7_foot_0 : decode cX7_foot 0 = .ok (.aload_n 0, 1) := by decide +kernel
theorem dX7_foot_1 : decode cX7_foot 1 = .ok (.iload_n 1, 1) := by decide +kernel
theorem dX7_foot_2 : decode cX7_foot 2 = .ok (.invokevirtual 77, 3) := by decide +kernel
theorem dX7_foot_5 : decode cX7_foot 5 = .ok (.ifCond .eq 17, 3) := by decide +kernel
theorem dX7_foot_8 : decode cX7_foot 8 = .ok (.iload_n 2, 1) := by decide +kernel
theorem dX7_foot_9 : decode cX7_foot 9 = .ok (.invokestatic 101, 3) := by decide +kernel
theorem dX7_foot_12 : decode cX7_foot 12 = .ok (.ifCond .eq 10, 3) := by decide +kernel
theorem dX7_foot_15 : decode cX7_foot 15 = .ok (.iload_n 3, 1) := by decide +kernel
theorem dX7_foot_16 : decode cX7_foot 16 = .ok (.invokestatic 104, 3) := by decide +kernel
theorem dX7_foot_19 : decode cX7_foot 19 = .ok (.ifCond .ne 5, 3) := by decide +kernel
theorem dX7_foot_22 : decode cX7_foot 22 = .ok (.iconst (-1), 1) := by decide +kernel
theorem dX7_foot_23 : decode cX7_foot 23 = .ok (.ireturn, 1) := by decide +kernel
theorem dX7_foot_24 : decode cX7_foot 24 = .ok (.aload_n 0, 1) := by decide +kernel
theorem dX7_foot_25 : decode cX7_foot 25 = .ok (.getfield 10, 3) := by decide +kernel
theorem dX7_foot_28 : decode cX7_foot 28 = .ok (.iload_n 1, 1) := by decide +kernel
theorem dX7_foot_29 : decode cX7_foot 29 = .ok (.iload_n 2, 1) := by decide +kernel
theorem dX7_foot_30 : decode cX7_foot 30 = .ok (.iload_n 3, 1) := by decide +kernel
theorem dX7_foot_31 : decode cX7_foot 31 = .ok (.invokevirtual 107, 3) := by decide +kernel
theorem dX7_foot_34 : decode cX7_foot 34 = .ok (.ireturn, 1) := by decide +kernel
theorem dX7_asked_0 : decode cX7_asked 0 = .ok (.aload_n 0, 1) := by decide +kernel
theorem dX7_asked_1 : decode cX7_asked 1 = .ok (.iload_n 1, 1) := by decide +kernel
theorem dX7_asked_2 : decode cX7_asked 2 = .ok (.invokevirtual 94, 3) := by decide +kernel
theorem dX7_asked_5 : decode cX7_asked 5 = .ok (.ifCond .eq 18, 3) := by decide +kernel
theorem dX7_asked_8 : decode cX7_asked 8 = .ok (.aload_n 0, 1) := by decide +kernel
theorem dX7_asked_9 : decode cX7_asked 9 = .ok (.iload_n 2, 1) := by decide +kernel
theorem dX7_asked_10 : decode cX7_asked 10 = .ok (.invokevirtual 77, 3) := by decide +kernel
theorem dX7_asked_13 : decode cX7_asked 13 = .ok (.ifCond .eq 10, 3) := by decide +kernel
theorem dX7_asked_16 : decode cX7_asked 16 = .ok (.iload_n 3, 1) := by decide +kernel
theorem dX7_asked_17 : decode cX7_asked 17 = .ok (.invokestatic 104, 3) := by decide +kernel
theorem dX7_asked_20 : decode cX7_asked 20 = .ok (.ifCond .ne 5, 3) := by decide +kernel
theorem dX7_asked_23 : decode cX7_asked 23 = .ok (.iconst (-1), 1) := by decide +kernel
theorem dX7_asked_24 : decode cX7_asked 24 = .ok (.ireturn, 1) := by decide +kernel
theorem dX7_asked_25 : decode cX7_asked 25 = .ok (.aload_n 0, 1) := by decide +kernel
theorem dX7_asked_26 : decode cX7_asked 26 = .ok (.getfield 10, 3) := by decide +kernel
theorem dX7_asked_29 : decode cX7_asked 29 = .ok (.iload_n 1, 1) := by decide +kernel
theorem dX7_asked_30 : decode cX7_asked 30 = .ok (.iload_n 2, 1) := by decide +kernel
theorem dX7_asked_31 : decode cX7_asked 31 = .ok (.iload_n 3, 1) := by decide +kernel
theorem dX7_asked_32 : decode cX7_asked 32 = .ok (.invokevirtual 111, 3) := by decide +kernel
theorem dX7_asked_35 : decode cX7_asked 35 = .ok (.ireturn, 1) := by decide +kernel
theorem dX7_whose_0 : decode cX7_whose 0 = .ok (.aload_n 0, 1) := by decide +kernel
theorem dX7_whose_1 : decode cX7_whose 1 = .ok (.iload_n 1, 1) := by decide +kernel
theorem dX7_whose_2 : decode cX7_whose 2 = .ok (.invokevirtual 94, 3) := by decide +kernel
theorem dX7_whose_5 : decode cX7_whose 5 = .ok (.ifCond .eq 10, 3) := by decide +kernel
theorem dX7_whose_8 : decode cX7_whose 8 = .ok (.iload_n 2, 1) := by decide +kernel
theorem dX7_whose_9 : decode cX7_whose 9 = .ok (.invokestatic 104, 3) := by decide +kernel
theorem dX7_whose_12 : decode cX7_whose 12 = .ok (.ifCond .ne 5, 3) := by decide +kernel
theorem dX7_whose_15 : decode cX7_whose 15 = .ok (.iconst (-1), 1) := by decide +kernel
theorem dX7_whose_16 : decode cX7_whose 16 = .ok (.ireturn, 1) := by decide +kernel
theorem dX7_whose_17 : decode cX7_whose 17 = .ok (.iconst 0, 1) := by decide +kernel
theorem dX7_whose_18 : decode cX7_whose 18 = .ok (.istore_n 3, 1) := by decide +kernel
theorem dX7_whose_19 : decode cX7_whose 19 = .ok (.iconst 0, 1) := by decide +kernel
theorem dX7_whose_20 : decode cX7_whose 20 = .ok (.istore 4, 2) := by decide +kernel
theorem dX7_whose_22 : decode cX7_whose 22 = .ok (.iload 4, 2) := by decide +kernel
theorem dX7_whose_24 : decode cX7_whose 24 = .ok (.aload_n 0, 1) := by decide +kernel
theorem dX7_whose_25 : decode cX7_whose 25 = .ok (.getfield 10, 3) := by decide +kernel
theorem dX7_whose_28 : decode cX7_whose 28 = .ok (.getfield 69, 3) := by decide +kernel
theorem dX7_whose_31 : decode cX7_whose 31 = .ok (.if_icmp .ge 32, 3) := by decide +kernel
theorem dX7_whose_34 : decode cX7_whose 34 = .ok (.aload_n 0, 1) := by decide +kernel
theorem dX7_whose_35 : decode cX7_whose 35 = .ok (.getfield 10, 3) := by decide +kernel
theorem dX7_whose_38 : decode cX7_whose 38 = .ok (.iload_n 1, 1) := by decide +kernel
theorem dX7_whose_39 : decode cX7_whose 39 = .ok (.iload 4, 2) := by decide +kernel
theorem dX7_whose_41 : decode cX7_whose 41 = .ok (.iload_n 2, 1) := by decide +kernel
theorem dX7_whose_42 : decode cX7_whose 42 = .ok (.invokevirtual 111, 3) := by decide +kernel
theorem dX7_whose_45 : decode cX7_whose 45 = .ok (.bipush (-4), 2) := by decide +kernel
theorem dX7_whose_47 : decode cX7_whose 47 = .ok (.if_icmp .eq 10, 3) := by decide +kernel
theorem dX7_whose_50 : decode cX7_whose 50 = .ok (.iload_n 3, 1) := by decide +kernel
theorem dX7_whose_51 : decode cX7_whose 51 = .ok (.iconst 1, 1) := by decide +kernel
theorem dX7_whose_52 : decode cX7_whose 52 = .ok (.iload 4, 2) := by decide +kernel
theorem dX7_whose_54 : decode cX7_whose 54 = .ok (.ishl, 1) := by decide +kernel
theorem dX7_whose_55 : decode cX7_whose 55 = .ok (.ior, 1) := by decide +kernel
theorem dX7_whose_56 : decode cX7_whose 56 = .ok (.istore_n 3, 1) := by decide +kernel
theorem dX7_whose_57 : decode cX7_whose 57 = .ok (.iinc 4 1, 3) := by decide +kernel
theorem dX7_whose_60 : decode cX7_whose 60 = .ok (.goto (-38), 3) := by decide +kernel
theorem dX7_whose_63 : decode cX7_whose 63 = .ok (.iload_n 3, 1) := by decide +kernel
theorem dX7_whose_64 : decode cX7_whose 64 = .ok (.ireturn, 1) := by decide +kernel
theorem dX7_type_0 : decode cX7_type 0 = .ok (.iload_n 3, 1) := by decide +kernel
theorem dX7_type_1 : decode cX7_type 1 = .ok (.iconst 1, 1) := by decide +kernel
theorem dX7_type_2 : decode cX7_type 2 = .ok (.bipush 8, 2) := by decide +kernel
theorem dX7_type_4 : decode cX7_type 4 = .ok (.invokestatic 81, 3) := by decide +kernel
theorem dX7_type_7 : decode cX7_type 7 = .ok (.ifCond .eq 11, 3) := by decide +kernel
theorem dX7_type_10 : decode cX7_type 10 = .ok (.lload_n 1, 1) := by decide +kernel
theorem dX7_type_11 : decode cX7_type 11 = .ok (.iload_n 3, 1) := by decide +kernel
theorem dX7_type_12 : decode cX7_type 12 = .ok (.invokestatic 114, 3) := by decide +kernel
theorem dX7_type_15 : decode cX7_type 15 = .ok (.ifCond .ne 5, 3) := by decide +kernel
theorem dX7_type_18 : decode cX7_type 18 = .ok (.iconst (-1), 1) := by decide +kernel
theorem dX7_type_19 : decode cX7_type 19 = .ok (.ireturn, 1) := by decide +kernel
theorem dX7_type_20 : decode cX7_type 20 = .ok (.aload_n 0, 1) := by decide +kernel
theorem dX7_type_21 : decode cX7_type 21 = .ok (.getfield 26, 3) := by decide +kernel
theorem dX7_type_24 : decode cX7_type 24 = .ok (.getfield 118, 3) := by decide +kernel
theorem dX7_type_27 : decode cX7_type 27 = .ok (.iload_n 3, 1) := by decide +kernel
theorem dX7_type_28 : decode cX7_type 28 = .ok (.iadd, 1) := by decide +kernel
theorem dX7_type_29 : decode cX7_type 29 = .ok (.bipush 120, 2) := by decide +kernel
theorem dX7_type_31 : decode cX7_type 31 = .ok (.if_icmp .le 6, 3) := by decide +kernel
theorem dX7_type_34 : decode cX7_type 34 = .ok (.bipush (-3), 2) := by decide +kernel
theorem dX7_type_36 : decode cX7_type 36 = .ok (.ireturn, 1) := by decide +kernel
theorem dX7_type_37 : decode cX7_type 37 = .ok (.aload_n 0, 1) := by decide +kernel
theorem dX7_type_38 : decode cX7_type 38 = .ok (.getfield 26, 3) := by decide +kernel
theorem dX7_type_41 : decode cX7_type 41 = .ok (.lload_n 1, 1) := by decide +kernel
theorem dX7_type_42 : decode cX7_type 42 = .ok (.iload_n 3, 1) := by decide +kernel
theorem dX7_type_43 : decode cX7_type 43 = .ok (.invokevirtual 121, 3) := by decide +kernel
theorem dX7_type_46 : decode cX7_type 46 = .ok (.aload_n 0, 1) := by decide +kernel
theorem dX7_type_47 : decode cX7_type 47 = .ok (.getfield 26, 3) := by decide +kernel
theorem dX7_type_50 : decode cX7_type 50 = .ok (.getfield 118, 3) := by decide +kernel
theorem dX7_type_53 : decode cX7_type 53 = .ok (.ireturn, 1) := by decide +kernel
theorem dX7_brides_0 : decode cX7_brides 0 = .ok (.aload_n 0, 1) := by decide +kernel
theorem dX7_brides_1 : decode cX7_brides 1 = .ok (.getfield 26, 3) := by decide +kernel
theorem dX7_brides_4 : decode cX7_brides 4 = .ok (.invokevirtual 125, 3) := by decide +kernel
theorem dX7_brides_7 : decode cX7_brides 7 = .ok (.istore_n 1, 1) := by decide +kernel
theorem dX7_brides_8 : decode cX7_brides 8 = .ok (.aload_n 0, 1) := by decide +kernel
theorem dX7_brides_9 : decode cX7_brides 9 = .ok (.getfield 26, 3) := by decide +kernel
theorem dX7_brides_12 : decode cX7_brides 12 = .ok (.iconst 0, 1) := by decide +kernel
theorem dX7_brides_13 : decode cX7_brides 13 = .ok (.putfield 118, 3) := by decide +kernel
theorem dX7_brides_16 : decode cX7_brides 16 = .ok (.iload_n 1, 1) := by decide +kernel
theorem dX7_brides_17 : decode cX7_brides 17 = .ok (.ifCond .le 18, 3) := by decide +kernel
theorem dX7_brides_20 : decode cX7_brides 20 = .ok (.aload_n 0, 1) := by decide +kernel
theorem dX7_brides_21 : decode cX7_brides 21 = .ok (.getfield 10, 3) := by decide +kernel
theorem dX7_brides_24 : decode cX7_brides 24 = .ok (.aload_n 0, 1) := by decide +kernel
theorem dX7_brides_25 : decode cX7_brides 25 = .ok (.getfield 26, 3) := by decide +kernel
theorem dX7_brides_28 : decode cX7_brides 28 = .ok (.getfield 129, 3) := by decide +kernel
theorem dX7_brides_31 : decode cX7_brides 31 = .ok (.iload_n 1, 1) := by decide +kernel
theorem dX7_brides_32 : decode cX7_brides 32 = .ok (.invokevirtual 132, 3) := by decide +kernel
theorem dX7_brides_35 : decode cX7_brides 35 = .ok (.iload_n 1, 1) := by decide +kernel
theorem dX7_brides_36 : decode cX7_brides 36 = .ok (.ireturn, 1) := by decide +kernel
theorem dX7_heap_0 : decode cX7_heap 0 = .ok (.aload_n 0, 1) := by decide +kernel
theorem dX7_heap_1 : decode cX7_heap 1 = .ok (.getfield 26, 3) := by decide +kernel
theorem dX7_heap_4 : decode cX7_heap 4 = .ok (.invokevirtual 136, 3) := by decide +kernel
theorem dX7_heap_7 : decode cX7_heap 7 = .ok (.istore_n 1, 1) := by decide +kernel
theorem dX7_heap_8 : decode cX7_heap 8 = .ok (.aload_n 0, 1) := by decide +kernel
theorem dX7_heap_9 : decode cX7_heap 9 = .ok (.getfield 26, 3) := by decide +kernel
theorem dX7_heap_12 : decode cX7_heap 12 = .ok (.iconst 0, 1) := by decide +kernel
theorem dX7_heap_13 : decode cX7_heap 13 = .ok (.putfield 118, 3) := by decide +kernel
theorem dX7_heap_16 : decode cX7_heap 16 = .ok (.iload_n 1, 1) := by decide +kernel
theorem dX7_heap_17 : decode cX7_heap 17 = .ok (.ifCond .le 18, 3) := by decide +kernel
theorem dX7_heap_20 : decode cX7_heap 20 = .ok (.aload_n 0, 1) := by decide +kernel
theorem dX7_heap_21 : decode cX7_heap 21 = .ok (.getfield 10, 3) := by decide +kernel
theorem dX7_heap_24 : decode cX7_heap 24 = .ok (.aload_n 0, 1) := by decide +kernel
theorem dX7_heap_25 : decode cX7_heap 25 = .ok (.getfield 26, 3) := by decide +kernel
theorem dX7_heap_28 : decode cX7_heap 28 = .ok (.getfield 129, 3) := by decide +kernel
theorem dX7_heap_31 : decode cX7_heap 31 = .ok (.iload_n 1, 1) := by decide +kernel
theorem dX7_heap_32 : decode cX7_heap 32 = .ok (.invokevirtual 139, 3) := by decide +kernel
theorem dX7_heap_35 : decode cX7_heap 35 = .ok (.iload_n 1, 1) := by decide +kernel
theorem dX7_heap_36 : decode cX7_heap 36 = .ok (.ireturn, 1) := by decide +kernel
theorem dX7_count_0 : decode cX7_count 0 = .ok (.iload_n 1, 1) := by decide +kernel
theorem dX7_count_1 : decode cX7_count 1 = .ok (.tableswitch 95 0 4 #[35, 43, 51, 60, 69], 35) := by decide +kernel
theorem dX7_count_36 : decode cX7_count 36 = .ok (.aload_n 0, 1) := by decide +kernel
theorem dX7_count_37 : decode cX7_count 37 = .ok (.getfield 10, 3) := by decide +kernel
theorem dX7_count_40 : decode cX7_count 40 = .ok (.getfield 69, 3) := by decide +kernel
theorem dX7_count_43 : decode cX7_count 43 = .ok (.ireturn, 1) := by decide +kernel
theorem dX7_count_44 : decode cX7_count 44 = .ok (.aload_n 0, 1) := by decide +kernel
theorem dX7_count_45 : decode cX7_count 45 = .ok (.getfield 10, 3) := by decide +kernel
theorem dX7_count_48 : decode cX7_count 48 = .ok (.getfield 88, 3) := by decide +kernel
theorem dX7_count_51 : decode cX7_count 51 = .ok (.ireturn, 1) := by decide +kernel
theorem dX7_count_52 : decode cX7_count 52 = .ok (.aload_n 0, 1) := by decide +kernel
theorem dX7_count_53 : decode cX7_count 53 = .ok (.getfield 10, 3) := by decide +kernel
theorem dX7_count_56 : decode cX7_count 56 = .ok (.iconst 0, 1) := by decide +kernel
theorem dX7_count_57 : decode cX7_count 57 = .ok (.invokevirtual 142, 3) := by decide +kernel
theorem dX7_count_60 : decode cX7_count 60 = .ok (.ireturn, 1) := by decide +kernel
theorem dX7_count_61 : decode cX7_count 61 = .ok (.aload_n 0, 1) := by decide +kernel
theorem dX7_count_62 : decode cX7_count 62 = .ok (.getfield 10, 3) := by decide +kernel
theorem dX7_count_65 : decode cX7_count 65 = .ok (.iconst 1, 1) := by decide +kernel
theorem dX7_count_66 : decode cX7_count 66 = .ok (.invokevirtual 142, 3) := by decide +kernel
theorem dX7_count_69 : decode cX7_count 69 = .ok (.ireturn, 1) := by decide +kernel
theorem dX7_count_70 : decode cX7_count 70 = .ok (.aload_n 0, 1) := by decide +kernel
theorem dX7_count_71 : decode cX7_count 71 = .ok (.getfield 10, 3) := by decide +kernel
theorem dX7_count_74 : decode cX7_count 74 = .ok (.getfield 88, 3) := by decide +kernel
theorem dX7_count_77 : decode cX7_count 77 = .ok (.aload_n 0, 1) := by decide +kernel
theorem dX7_count_78 : decode cX7_count 78 = .ok (.getfield 10, 3) := by decide +kernel
theorem dX7_count_81 : decode cX7_count 81 = .ok (.iconst 0, 1) := by decide +kernel
theorem dX7_count_82 : decode cX7_count 82 = .ok (.invokevirtual 142, 3) := by decide +kernel
theorem dX7_count_85 : decode cX7_count 85 = .ok (.isub, 1) := by decide +kernel
theorem dX7_count_86 : decode cX7_count 86 = .ok (.aload_n 0, 1) := by decide +kernel
theorem dX7_count_87 : decode cX7_count 87 = .ok (.getfield 10, 3) := by decide +kernel
theorem dX7_count_90 : decode cX7_count 90 = .ok (.iconst 1, 1) := by decide +kernel
theorem dX7_count_91 : decode cX7_count 91 = .ok (.invokevirtual 142, 3) := by decide +kernel
theorem dX7_count_94 : decode cX7_count 94 = .ok (.isub, 1) := by decide +kernel
theorem dX7_count_95 : decode cX7_count 95 = .ok (.ireturn, 1) := by decide +kernel
theorem dX7_count_96 : decode cX7_count 96 = .ok (.iconst (-1), 1) := by decide +kernel
theorem dX7_count_97 : decode cX7_count 97 = .ok (.ireturn, 1) := by decide +kernel
theorem dX7_shod_0 : decode cX7_shod 0 = .ok (.iload_n 1, 1) := by decide +kernel
theorem dX7_shod_1 : decode cX7_shod 1 = .ok (.invokestatic 101, 3) := by decide +kernel
theorem dX7_shod_4 : decode cX7_shod 4 = .ok (.ifCond .eq 16, 3) := by decide +kernel
theorem dX7_shod_7 : decode cX7_shod 7 = .ok (.iload_n 2, 1) := by decide +kernel
theorem dX7_shod_8 : decode cX7_shod 8 = .ok (.iconst (-1), 1) := by decide +kernel
theorem dX7_shod_9 : decode cX7_shod 9 = .ok (.if_icmp .eq 13, 3) := by decide +kernel
theorem dX7_shod_12 : decode cX7_shod 12 = .ok (.aload_n 0, 1) := by decide +kernel
theorem dX7_shod_13 : decode cX7_shod 13 = .ok (.iload_n 2, 1) := by decide +kernel
theorem dX7_shod_14 : decode cX7_shod 14 = .ok (.invokevirtual 77, 3) := by decide +kernel
theorem dX7_shod_17 : decode cX7_shod 17 = .ok (.ifCond .ne 5, 3) := by decide +kernel
theorem dX7_shod_20 : decode cX7_shod 20 = .ok (.iconst (-1), 1) := by decide +kernel
theorem dX7_shod_21 : decode cX7_shod 21 = .ok (.ireturn, 1) := by decide +kernel
theorem dX7_shod_22 : decode cX7_shod 22 = .ok (.aload_n 0, 1) := by decide +kernel
theorem dX7_shod_23 : decode cX7_shod 23 = .ok (.getfield 33, 3) := by decide +kernel
theorem dX7_shod_26 : decode cX7_shod 26 = .ok (.aload_n 0, 1) := by decide +kernel
theorem dX7_shod_27 : decode cX7_shod 27 = .ok (.getfield 10, 3) := by decide +kernel
theorem dX7_shod_30 : decode cX7_shod 30 = .ok (.iload_n 1, 1) := by decide +kernel
theorem dX7_shod_31 : decode cX7_shod 31 = .ok (.invokevirtual 146, 3) := by decide +kernel
theorem dX7_shod_34 : decode cX7_shod 34 = .ok (.ifCond .ne 6, 3) := by decide +kernel
theorem dX7_shod_37 : decode cX7_shod 37 = .ok (.bipush (-4), 2) := by decide +kernel
theorem dX7_shod_39 : decode cX7_shod 39 = .ok (.ireturn, 1) := by decide +kernel
theorem dX7_shod_40 : decode cX7_shod 40 = .ok (.iload_n 2, 1) := by decide +kernel
theorem dX7_shod_41 : decode cX7_shod 41 = .ok (.iconst (-1), 1) := by decide +kernel
theorem dX7_shod_42 : decode cX7_shod 42 = .ok (.if_icmp .ne 13, 3) := by decide +kernel
theorem dX7_shod_45 : decode cX7_shod 45 = .ok (.aload_n 0, 1) := by decide +kernel
theorem dX7_shod_46 : decode cX7_shod 46 = .ok (.getfield 33, 3) := by decide +kernel
theorem dX7_shod_49 : decode cX7_shod 49 = .ok (.getfield 150, 3) := by decide +kernel
theorem dX7_shod_52 : decode cX7_shod 52 = .ok (.goto 12, 3) := by decide +kernel
theorem dX7_shod_55 : decode cX7_shod 55 = .ok (.aload_n 0, 1) := by decide +kernel
theorem dX7_shod_56 : decode cX7_shod 56 = .ok (.getfield 33, 3) := by decide +kernel
theorem dX7_shod_59 : decode cX7_shod 59 = .ok (.getfield 153, 3) := by decide +kernel
theorem dX7_shod_62 : decode cX7_shod 62 = .ok (.iload_n 2, 1) := by decide +kernel
theorem dX7_shod_63 : decode cX7_shod 63 = .ok (.iaload, 1) := by decide +kernel
theorem dX7_shod_64 : decode cX7_shod 64 = .ok (.ireturn, 1) := by decide +kernel
theorem dX7_most_0 : decode cX7_most 0 = .ok (.iload_n 1, 1) := by decide +kernel
theorem dX7_most_1 : decode cX7_most 1 = .ok (.invokestatic 101, 3) := by decide +kernel
theorem dX7_most_4 : decode cX7_most 4 = .ok (.ifCond .eq 18, 3) := by decide +kernel
theorem dX7_most_7 : decode cX7_most 7 = .ok (.aload_n 0, 1) := by decide +kernel
theorem dX7_most_8 : decode cX7_most 8 = .ok (.getfield 33, 3) := by decide +kernel
theorem dX7_most_11 : decode cX7_most 11 = .ok (.aload_n 0, 1) := by decide +kernel
theorem dX7_most_12 : decode cX7_most 12 = .ok (.getfield 10, 3) := by decide +kernel
theorem dX7_most_15 : decode cX7_most 15 = .ok (.iload_n 1, 1) := by decide +kernel
theorem dX7_most_16 : decode cX7_most 16 = .ok (.invokevirtual 156, 3) := by decide +kernel
theorem dX7_most_19 : decode cX7_most 19 = .ok (.goto 4, 3) := by decide +kernel
theorem dX7_most_22 : decode cX7_most 22 = .ok (.iconst (-1), 1) := by decide +kernel
theorem dX7_most_23 : decode cX7_most 23 = .ok (.ireturn, 1) := by decide +kernel
theorem dX7_chain_0 : decode cX7_chain 0 = .ok (.aload_n 0, 1) := by decide +kernel
theorem dX7_chain_1 : decode cX7_chain 1 = .ok (.iload_n 1, 1) := by decide +kernel
theorem dX7_chain_2 : decode cX7_chain 2 = .ok (.invokevirtual 94, 3) := by decide +kernel
theorem dX7_chain_5 : decode cX7_chain 5 = .ok (.ifCond .ne 5, 3) := by decide +kernel
theorem dX7_chain_8 : decode cX7_chain 8 = .ok (.iconst (-1), 1) := by decide +kernel
theorem dX7_chain_9 : decode cX7_chain 9 = .ok (.ireturn, 1) := by decide +kernel
theorem dX7_chain_10 : decode cX7_chain 10 = .ok (.aload_n 0, 1) := by decide +kernel
theorem dX7_chain_11 : decode cX7_chain 11 = .ok (.getfield 10, 3) := by decide +kernel
theorem dX7_chain_14 : decode cX7_chain 14 = .ok (.getfield 91, 3) := by decide +kernel
theorem dX7_chain_17 : decode cX7_chain 17 = .ok (.iload_n 1, 1) := by decide +kernel
theorem dX7_chain_18 : decode cX7_chain 18 = .ok (.aaload, 1) := by decide +kernel
theorem dX7_chain_19 : decode cX7_chain 19 = .ok (.iconst 3, 1) := by decide +kernel
theorem dX7_chain_20 : decode cX7_chain 20 = .ok (.iaload, 1) := by decide +kernel
theorem dX7_chain_21 : decode cX7_chain 21 = .ok (.ifCond .ne 28, 3) := by decide +kernel
theorem dX7_chain_24 : decode cX7_chain 24 = .ok (.aload_n 0, 1) := by decide +kernel
theorem dX7_chain_25 : decode cX7_chain 25 = .ok (.getfield 33, 3) := by decide +kernel
theorem dX7_chain_28 : decode cX7_chain 28 = .ok (.aload_n 0, 1) := by decide +kernel
theorem dX7_chain_29 : decode cX7_chain 29 = .ok (.getfield 10, 3) := by decide +kernel
theorem dX7_chain_32 : decode cX7_chain 32 = .ok (.aload_n 0, 1) := by decide +kernel
theorem dX7_chain_33 : decode cX7_chain 33 = .ok (.getfield 10, 3) := by decide +kernel
theorem dX7_chain_36 : decode cX7_chain 36 = .ok (.getfield 91, 3) := by decide +kernel
theorem dX7_chain_39 : decode cX7_chain 39 = .ok (.iload_n 1, 1) := by decide +kernel
theorem dX7_chain_40 : decode cX7_chain 40 = .ok (.aaload, 1) := by decide +kernel
theorem dX7_chain_41 : decode cX7_chain 41 = .ok (.iconst 0, 1) := by decide +kernel
theorem dX7_chain_42 : decode cX7_chain 42 = .ok (.iaload, 1) := by decide +kernel
theorem dX7_chain_43 : decode cX7_chain 43 = .ok (.invokevirtual 146, 3) := by decide +kernel
theorem dX7_chain_46 : decode cX7_chain 46 = .ok (.ifCond .ne 6, 3) := by decide +kernel
theorem dX7_chain_49 : decode cX7_chain 49 = .ok (.bipush (-2), 2) := by decide +kernel
theorem dX7_chain_51 : decode cX7_chain 51 = .ok (.ireturn, 1) := by decide +kernel
theorem dX7_chain_52 : decode cX7_chain 52 = .ok (.aload_n 0, 1) := by decide +kernel
theorem dX7_chain_53 : decode cX7_chain 53 = .ok (.getfield 33, 3) := by decide +kernel
theorem dX7_chain_56 : decode cX7_chain 56 = .ok (.aload_n 0, 1) := by decide +kernel
theorem dX7_chain_57 : decode cX7_chain 57 = .ok (.getfield 10, 3) := by decide +kernel
theorem dX7_chain_60 : decode cX7_chain 60 = .ok (.iload_n 1, 1) := by decide +kernel
theorem dX7_chain_61 : decode cX7_chain 61 = .ok (.invokevirtual 160, 3) := by decide +kernel
theorem dX7_chain_64 : decode cX7_chain 64 = .ok (.ifCond .eq 18, 3) := by decide +kernel
theorem dX7_chain_67 : decode cX7_chain 67 = .ok (.aload_n 0, 1) := by decide +kernel
theorem dX7_chain_68 : decode cX7_chain 68 = .ok (.getfield 33, 3) := by decide +kernel
theorem dX7_chain_71 : decode cX7_chain 71 = .ok (.aload_n 0, 1) := by decide +kernel
theorem dX7_chain_72 : decode cX7_chain 72 = .ok (.getfield 10, 3) := by decide +kernel
theorem dX7_chain_75 : decode cX7_chain 75 = .ok (.iload_n 1, 1) := by decide +kernel
theorem dX7_chain_76 : decode cX7_chain 76 = .ok (.invokevirtual 163, 3) := by decide +kernel
theorem dX7_chain_79 : decode cX7_chain 79 = .ok (.goto 5, 3) := by decide +kernel
theorem dX7_chain_82 : decode cX7_chain 82 = .ok (.bipush (-2), 2) := by decide +kernel
theorem dX7_chain_84 : decode cX7_chain 84 = .ok (.ireturn, 1) := by decide +kernel
theorem dX7_limps_0 : decode cX7_limps 0 = .ok (.aload_n 0, 1) := by decide +kernel
theorem dX7_limps_1 : decode cX7_limps 1 = .ok (.iload_n 1, 1) := by decide +kernel
theorem dX7_limps_2 : decode cX7_limps 2 = .ok (.invokevirtual 77, 3) := by decide +kernel
theorem dX7_limps_5 : decode cX7_limps 5 = .ok (.ifCond .eq 18, 3) := by decide +kernel
theorem dX7_limps_8 : decode cX7_limps 8 = .ok (.aload_n 0, 1) := by decide +kernel
theorem dX7_limps_9 : decode cX7_limps 9 = .ok (.iload_n 2, 1) := by decide +kernel
theorem dX7_limps_10 : decode cX7_limps 10 = .ok (.invokevirtual 94, 3) := by decide +kernel
theorem dX7_limps_13 : decode cX7_limps 13 = .ok (.ifCond .eq 10, 3) := by decide +kernel
theorem dX7_limps_16 : decode cX7_limps 16 = .ok (.iload_n 3, 1) := by decide +kernel
theorem dX7_limps_17 : decode cX7_limps 17 = .ok (.invokestatic 104, 3) := by decide +kernel
theorem dX7_limps_20 : decode cX7_limps 20 = .ok (.ifCond .ne 6, 3) := by decide +kernel
theorem dX7_limps_23 : decode cX7_limps 23 = .ok (.ldc 166, 2) := by decide +kernel
theorem dX7_limps_25 : decode cX7_limps 25 = .ok (.ireturn, 1) := by decide +kernel
theorem dX7_limps_26 : decode cX7_limps 26 = .ok (.aload_n 0, 1) := by decide +kernel
theorem dX7_limps_27 : decode cX7_limps 27 = .ok (.getfield 10, 3) := by decide +kernel
theorem dX7_limps_30 : decode cX7_limps 30 = .ok (.iload_n 1, 1) := by decide +kernel
theorem dX7_limps_31 : decode cX7_limps 31 = .ok (.iload_n 2, 1) := by decide +kernel
theorem dX7_limps_32 : decode cX7_limps 32 = .ok (.iload_n 3, 1) := by decide +kernel
theorem dX7_limps_33 : decode cX7_limps 33 = .ok (.invokevirtual 167, 3) := by decide +kernel
theorem dX7_limps_36 : decode cX7_limps 36 = .ok (.ireturn, 1) := by decide +kernel
theorem dX7_tries_0 : decode cX7_tries 0 = .ok (.iload_n 1, 1) := by decide +kernel
theorem dX7_tries_1 : decode cX7_tries 1 = .ok (.invokestatic 101, 3) := by decide +kernel
theorem dX7_tries_4 : decode cX7_tries 4 = .ok (.ifCond .eq 34, 3) := by decide +kernel
theorem dX7_tries_7 : decode cX7_tries 7 = .ok (.iload_n 2, 1) := by decide +kernel
theorem dX7_tries_8 : decode cX7_tries 8 = .ok (.bipush 20, 2) := by decide +kernel
theorem dX7_tries_10 : decode cX7_tries 10 = .ok (.bipush 60, 2) := by decide +kernel
theorem dX7_tries_12 : decode cX7_tries 12 = .ok (.invokestatic 81, 3) := by decide +kernel
theorem dX7_tries_15 : decode cX7_tries 15 = .ok (.ifCond .eq 23, 3) := by decide +kernel
theorem dX7_tries_18 : decode cX7_tries 18 = .ok (.iload_n 3, 1) := by decide +kernel
theorem dX7_tries_19 : decode cX7_tries 19 = .ok (.iload_n 2, 1) := by decide +kernel
theorem dX7_tries_20 : decode cX7_tries 20 = .ok (.bipush 60, 2) := by decide +kernel
theorem dX7_tries_22 : decode cX7_tries 22 = .ok (.invokestatic 81, 3) := by decide +kernel
theorem dX7_tries_25 : decode cX7_tries 25 = .ok (.ifCond .eq 13, 3) := by decide +kernel
theorem dX7_tries_28 : decode cX7_tries 28 = .ok (.iload 4, 2) := by decide +kernel
theorem dX7_tries_30 : decode cX7_tries 30 = .ok (.iconst 0, 1) := by decide +kernel
theorem dX7_tries_31 : decode cX7_tries 31 = .ok (.iconst 1, 1) := by decide +kernel
theorem dX7_tries_32 : decode cX7_tries 32 = .ok (.invokestatic 81, 3) := by decide +kernel
theorem dX7_tries_35 : decode cX7_tries 35 = .ok (.ifCond .ne 5, 3) := by decide +kernel
theorem dX7_tries_38 : decode cX7_tries 38 = .ok (.iconst (-1), 1) := by decide +kernel
theorem dX7_tries_39 : decode cX7_tries 39 = .ok (.ireturn, 1) := by decide +kernel
theorem dX7_tries_40 : decode cX7_tries 40 = .ok (.aload_n 0, 1) := by decide +kernel
theorem dX7_tries_41 : decode cX7_tries 41 = .ok (.getfield 40, 3) := by decide +kernel
theorem dX7_tries_44 : decode cX7_tries 44 = .ok (.aload_n 0, 1) := by decide +kernel
theorem dX7_tries_45 : decode cX7_tries 45 = .ok (.getfield 10, 3) := by decide +kernel
theorem dX7_tries_48 : decode cX7_tries 48 = .ok (.iload_n 1, 1) := by decide +kernel
theorem dX7_tries_49 : decode cX7_tries 49 = .ok (.iload_n 2, 1) := by decide +kernel
theorem dX7_tries_50 : decode cX7_tries 50 = .ok (.iload_n 3, 1) := by decide +kernel
theorem dX7_tries_51 : decode cX7_tries 51 = .ok (.invokevirtual 170, 3) := by decide +kernel
theorem dX7_tries_54 : decode cX7_tries 54 = .ok (.iload 4, 2) := by decide +kernel
theorem dX7_tries_56 : decode cX7_tries 56 = .ok (.ifCond .ne 15, 3) := by decide +kernel
theorem dX7_tries_59 : decode cX7_tries 59 = .ok (.aload_n 0, 1) := by decide +kernel
theorem dX7_tries_60 : decode cX7_tries 60 = .ok (.getfield 40, 3) := by decide +kernel
theorem dX7_tries_63 : decode cX7_tries 63 = .ok (.iload_n 2, 1) := by decide +kernel
theorem dX7_tries_64 : decode cX7_tries 64 = .ok (.iload_n 3, 1) := by decide +kernel
theorem dX7_tries_65 : decode cX7_tries 65 = .ok (.invokevirtual 174, 3) := by decide +kernel
theorem dX7_tries_68 : decode cX7_tries 68 = .ok (.goto 12, 3) := by decide +kernel
theorem dX7_tries_71 : decode cX7_tries 71 = .ok (.aload_n 0, 1) := by decide +kernel
theorem dX7_tries_72 : decode cX7_tries 72 = .ok (.getfield 40, 3) := by decide +kernel
theorem dX7_tries_75 : decode cX7_tries 75 = .ok (.iload_n 2, 1) := by decide +kernel
theorem dX7_tries_76 : decode cX7_tries 76 = .ok (.iload_n 3, 1) := by decide +kernel
theorem dX7_tries_77 : decode cX7_tries 77 = .ok (.invokevirtual 178, 3) := by decide +kernel
theorem dX7_tries_80 : decode cX7_tries 80 = .ok (.ireturn, 1) := by decide +kernel
theorem dX7_image_0 : decode cX7_image 0 = .ok (.aload_n 0, 1) := by decide +kernel
theorem dX7_image_1 : decode cX7_image 1 = .ok (.getfield 16, 3) := by decide +kernel
theorem dX7_image_4 : decode cX7_image 4 = .ok (.aload_n 0, 1) := by decide +kernel
theorem dX7_image_5 : decode cX7_image 5 = .ok (.getfield 10, 3) := by decide +kernel
theorem dX7_image_8 : decode cX7_image 8 = .ok (.invokevirtual 181, 3) := by decide +kernel
theorem dX7_image_11 : decode cX7_image 11 = .ok (.aload_n 0, 1) := by decide +kernel
theorem dX7_image_12 : decode cX7_image 12 = .ok (.iconst 1, 1) := by decide +kernel
theorem dX7_image_13 : decode cX7_image 13 = .ok (.putfield 19, 3) := by decide +kernel
theorem dX7_image_16 : decode cX7_image 16 = .ok (.iconst 1, 1) := by decide +kernel
theorem dX7_image_17 : decode cX7_image 17 = .ok (.ireturn, 1) := by decide +kernel
theorem dX7_restore_0 : decode cX7_restore 0 = .ok (.aload_n 0, 1) := by decide +kernel
theorem dX7_restore_1 : decode cX7_restore 1 = .ok (.getfield 19, 3) := by decide +kernel
theorem dX7_restore_4 : decode cX7_restore 4 = .ok (.ifCond .ne 6, 3) := by decide +kernel
theorem dX7_restore_7 : decode cX7_restore 7 = .ok (.bipush (-4), 2) := by decide +kernel
theorem dX7_restore_9 : decode cX7_restore 9 = .ok (.ireturn, 1) := by decide +kernel
theorem dX7_restore_10 : decode cX7_restore 10 = .ok (.aload_n 0, 1) := by decide +kernel
theorem dX7_restore_11 : decode cX7_restore 11 = .ok (.getfield 10, 3) := by decide +kernel
theorem dX7_restore_14 : decode cX7_restore 14 = .ok (.aload_n 0, 1) := by decide +kernel
theorem dX7_restore_15 : decode cX7_restore 15 = .ok (.getfield 16, 3) := by decide +kernel
theorem dX7_restore_18 : decode cX7_restore 18 = .ok (.invokevirtual 181, 3) := by decide +kernel
theorem dX7_restore_21 : decode cX7_restore 21 = .ok (.iconst 1, 1) := by decide +kernel
theorem dX7_restore_22 : decode cX7_restore 22 = .ok (.ireturn, 1) := by decide +kernel
theorem dX7_changed_0 : decode cX7_changed 0 = .ok (.iload_n 1, 1) := by decide +kernel
theorem dX7_changed_1 : decode cX7_changed 1 = .ok (.invokestatic 101, 3) := by decide +kernel
theorem dX7_changed_4 : decode cX7_changed 4 = .ok (.ifCond .eq 28, 3) := by decide +kernel
theorem dX7_changed_7 : decode cX7_changed 7 = .ok (.iload_n 2, 1) := by decide +kernel
theorem dX7_changed_8 : decode cX7_changed 8 = .ok (.invokestatic 185, 3) := by decide +kernel
theorem dX7_changed_11 : decode cX7_changed 11 = .ok (.ifCond .eq 21, 3) := by decide +kernel
theorem dX7_changed_14 : decode cX7_changed 14 = .ok (.iload_n 3, 1) := by decide +kernel
theorem dX7_changed_15 : decode cX7_changed 15 = .ok (.invokestatic 188, 3) := by decide +kernel
theorem dX7_changed_18 : decode cX7_changed 18 = .ok (.ifCond .eq 14, 3) := by decide +kernel
theorem dX7_changed_21 : decode cX7_changed 21 = .ok (.iload 5, 2) := by decide +kernel
theorem dX7_changed_23 : decode cX7_changed 23 = .ok (.iconst 1, 1) := by decide +kernel
theorem dX7_changed_24 : decode cX7_changed 24 = .ok (.bipush 6, 2) := by decide +kernel
theorem dX7_changed_26 : decode cX7_changed 26 = .ok (.invokestatic 81, 3) := by decide +kernel
theorem dX7_changed_29 : decode cX7_changed 29 = .ok (.ifCond .ne 5, 3) := by decide +kernel
theorem dX7_changed_32 : decode cX7_changed 32 = .ok (.iconst (-1), 1) := by decide +kernel
theorem dX7_changed_33 : decode cX7_changed 33 = .ok (.ireturn, 1) := by decide +kernel
theorem dX7_changed_34 : decode cX7_changed 34 = .ok (.iload 5, 2) := by decide +kernel
theorem dX7_changed_36 : decode cX7_changed 36 = .ok (.aload_n 0, 1) := by decide +kernel
theorem dX7_changed_37 : decode cX7_changed 37 = .ok (.getfield 10, 3) := by decide +kernel
theorem dX7_changed_40 : decode cX7_changed 40 = .ok (.getfield 69, 3) := by decide +kernel
theorem dX7_changed_43 : decode cX7_changed 43 = .ok (.if_icmp .gt 16, 3) := by decide +kernel
theorem dX7_changed_46 : decode cX7_changed 46 = .ok (.iload 6, 2) := by decide +kernel
theorem dX7_changed_48 : decode cX7_changed 48 = .ok (.iconst (-1), 1) := by decide +kernel
theorem dX7_changed_49 : decode cX7_changed 49 = .ok (.iload 5, 2) := by decide +kernel
theorem dX7_changed_51 : decode cX7_changed 51 = .ok (.iconst 1, 1) := by decide +kernel
theorem dX7_changed_52 : decode cX7_changed 52 = .ok (.isub, 1) := by decide +kernel
theorem dX7_changed_53 : decode cX7_changed 53 = .ok (.invokestatic 81, 3) := by decide +kernel
theorem dX7_changed_56 : decode cX7_changed 56 = .ok (.ifCond .ne 5, 3) := by decide +kernel
theorem dX7_changed_59 : decode cX7_changed 59 = .ok (.iconst (-1), 1) := by decide +kernel
theorem dX7_changed_60 : decode cX7_changed 60 = .ok (.ireturn, 1) := by decide +kernel
theorem dX7_changed_61 : decode cX7_changed 61 = .ok (.aload_n 0, 1) := by decide +kernel
theorem dX7_changed_62 : decode cX7_changed 62 = .ok (.getfield 33, 3) := by decide +kernel
theorem dX7_changed_65 : decode cX7_changed 65 = .ok (.aload_n 0, 1) := by decide +kernel
theorem dX7_changed_66 : decode cX7_changed 66 = .ok (.getfield 10, 3) := by decide +kernel
theorem dX7_changed_69 : decode cX7_changed 69 = .ok (.iload_n 1, 1) := by decide +kernel
theorem dX7_changed_70 : decode cX7_changed 70 = .ok (.invokevirtual 146, 3) := by decide +kernel
theorem dX7_changed_73 : decode cX7_changed 73 = .ok (.ifCond .ne 6, 3) := by decide +kernel
theorem dX7_changed_76 : decode cX7_changed 76 = .ok (.bipush (-2), 2) := by decide +kernel
theorem dX7_changed_78 : decode cX7_changed 78 = .ok (.ireturn, 1) := by decide +kernel
theorem dX7_changed_79 : decode cX7_changed 79 = .ok (.aload_n 0, 1) := by decide +kernel
theorem dX7_changed_80 : decode cX7_changed 80 = .ok (.getfield 60, 3) := by decide +kernel
theorem dX7_changed_83 : decode cX7_changed 83 = .ok (.iload_n 2, 1) := by decide +kernel
theorem dX7_changed_84 : decode cX7_changed 84 = .ok (.aaload, 1) := by decide +kernel
theorem dX7_changed_85 : decode cX7_changed 85 = .ok (.iload_n 3, 1) := by decide +kernel
theorem dX7_changed_86 : decode cX7_changed 86 = .ok (.iload 4, 2) := by decide +kernel
theorem dX7_changed_88 : decode cX7_changed 88 = .ok (.iload 5, 2) := by decide +kernel
theorem dX7_changed_90 : decode cX7_changed 90 = .ok (.invokevirtual 191, 3) := by decide +kernel
theorem dX7_changed_93 : decode cX7_changed 93 = .ok (.istore 7, 2) := by decide +kernel
theorem dX7_changed_95 : decode cX7_changed 95 = .ok (.iload 7, 2) := by decide +kernel
theorem dX7_changed_97 : decode cX7_changed 97 = .ok (.ifCond .eq 6, 3) := by decide +kernel
theorem dX7_changed_100 : decode cX7_changed 100 = .ok (.iload 7, 2) := by decide +kernel
theorem dX7_changed_102 : decode cX7_changed 102 = .ok (.ireturn, 1) := by decide +kernel
theorem dX7_changed_103 : decode cX7_changed 103 = .ok (.aload_n 0, 1) := by decide +kernel
theorem dX7_changed_104 : decode cX7_changed 104 = .ok (.getfield 47, 3) := by decide +kernel
theorem dX7_changed_107 : decode cX7_changed 107 = .ok (.aload_n 0, 1) := by decide +kernel
theorem dX7_changed_108 : decode cX7_changed 108 = .ok (.getfield 10, 3) := by decide +kernel
theorem dX7_changed_111 : decode cX7_changed 111 = .ok (.aload_n 0, 1) := by decide +kernel
theorem dX7_changed_112 : decode cX7_changed 112 = .ok (.getfield 33, 3) := by decide +kernel
theorem dX7_changed_115 : decode cX7_changed 115 = .ok (.getfield 153, 3) := by decide +kernel
theorem dX7_changed_118 : decode cX7_changed 118 = .ok (.aload_n 0, 1) := by decide +kernel
theorem dX7_changed_119 : decode cX7_changed 119 = .ok (.getfield 60, 3) := by decide +kernel
theorem dX7_changed_122 : decode cX7_changed 122 = .ok (.iload_n 2, 1) := by decide +kernel
theorem dX7_changed_123 : decode cX7_changed 123 = .ok (.aaload, 1) := by decide +kernel
theorem dX7_changed_124 : decode cX7_changed 124 = .ok (.getfield 194, 3) := by decide +kernel
theorem dX7_changed_127 : decode cX7_changed 127 = .ok (.iload 4, 2) := by decide +kernel
theorem dX7_changed_129 : decode cX7_changed 129 = .ok (.iload 5, 2) := by decide +kernel
theorem dX7_changed_131 : decode cX7_changed 131 = .ok (.invokevirtual 197, 3) := by decide +kernel
theorem dX7_changed_134 : decode cX7_changed 134 = .ok (.aload_n 0, 1) := by decide +kernel
theorem dX7_changed_135 : decode cX7_changed 135 = .ok (.getfield 47, 3) := by decide +kernel
theorem dX7_changed_138 : decode cX7_changed 138 = .ok (.invokevirtual 201, 3) := by decide +kernel
theorem dX7_changed_141 : decode cX7_changed 141 = .ok (.ifCond .ne 6, 3) := by decide +kernel
theorem dX7_changed_144 : decode cX7_changed 144 = .ok (.bipush (-4), 2) := by decide +kernel
theorem dX7_changed_146 : decode cX7_changed 146 = .ok (.ireturn, 1) := by decide +kernel
theorem dX7_changed_147 : decode cX7_changed 147 = .ok (.iload 6, 2) := by decide +kernel
theorem dX7_changed_149 : decode cX7_changed 149 = .ok (.iconst (-1), 1) := by decide +kernel
theorem dX7_changed_150 : decode cX7_changed 150 = .ok (.if_icmp .ne 13, 3) := by decide +kernel
theorem dX7_changed_153 : decode cX7_changed 153 = .ok (.aload_n 0, 1) := by decide +kernel
theorem dX7_changed_154 : decode cX7_changed 154 = .ok (.getfield 47, 3) := by decide +kernel
theorem dX7_changed_157 : decode cX7_changed 157 = .ok (.invokevirtual 201, 3) := by decide +kernel
theorem dX7_changed_160 : decode cX7_changed 160 = .ok (.goto 13, 3) := by decide +kernel
theorem dX7_changed_163 : decode cX7_changed 163 = .ok (.aload_n 0, 1) := by decide +kernel
theorem dX7_changed_164 : decode cX7_changed 164 = .ok (.getfield 47, 3) := by decide +kernel
theorem dX7_changed_167 : decode cX7_changed 167 = .ok (.getfield 204, 3) := by decide +kernel
theorem dX7_changed_170 : decode cX7_changed 170 = .ok (.iload 6, 2) := by decide +kernel
theorem dX7_changed_172 : decode cX7_changed 172 = .ok (.iaload, 1) := by decide +kernel
theorem dX7_changed_173 : decode cX7_changed 173 = .ok (.ireturn, 1) := by decide +kernel
theorem dX7_firm_0 : decode cX7_firm 0 = .ok (.iload_n 1, 1) := by decide +kernel
theorem dX7_firm_1 : decode cX7_firm 1 = .ok (.invokestatic 185, 3) := by decide +kernel
theorem dX7_firm_4 : decode cX7_firm 4 = .ok (.ifCond .eq 31, 3) := by decide +kernel
theorem dX7_firm_7 : decode cX7_firm 7 = .ok (.iload_n 2, 1) := by decide +kernel
theorem dX7_firm_8 : decode cX7_firm 8 = .ok (.invokestatic 188, 3) := by decide +kernel
theorem dX7_firm_11 : decode cX7_firm 11 = .ok (.ifCond .eq 24, 3) := by decide +kernel
theorem dX7_firm_14 : decode cX7_firm 14 = .ok (.iload 4, 2) := by decide +kernel
theorem dX7_firm_16 : decode cX7_firm 16 = .ok (.invokestatic 207, 3) := by decide +kernel
theorem dX7_firm_19 : decode cX7_firm 19 = .ok (.ifCond .eq 16, 3) := by decide +kernel
theorem dX7_firm_22 : decode cX7_firm 22 = .ok (.iload 5, 2) := by decide +kernel
theorem dX7_firm_24 : decode cX7_firm 24 = .ok (.iconst 0, 1) := by decide +kernel
theorem dX7_firm_25 : decode cX7_firm 25 = .ok (.iload 4, 2) := by decide +kernel
theorem dX7_firm_27 : decode cX7_firm 27 = .ok (.iconst 1, 1) := by decide +kernel
theorem dX7_firm_28 : decode cX7_firm 28 = .ok (.isub, 1) := by decide +kernel
theorem dX7_firm_29 : decode cX7_firm 29 = .ok (.invokestatic 81, 3) := by decide +kernel
theorem dX7_firm_32 : decode cX7_firm 32 = .ok (.ifCond .ne 5, 3) := by decide +kernel
theorem dX7_firm_35 : decode cX7_firm 35 = .ok (.iconst (-1), 1) := by decide +kernel
theorem dX7_firm_36 : decode cX7_firm 36 = .ok (.ireturn, 1) := by decide +kernel
theorem dX7_firm_37 : decode cX7_firm 37 = .ok (.aload_n 0, 1) := by decide +kernel
theorem dX7_firm_38 : decode cX7_firm 38 = .ok (.getfield 60, 3) := by decide +kernel
theorem dX7_firm_41 : decode cX7_firm 41 = .ok (.iload_n 1, 1) := by decide +kernel
theorem dX7_firm_42 : decode cX7_firm 42 = .ok (.aaload, 1) := by decide +kernel
theorem dX7_firm_43 : decode cX7_firm 43 = .ok (.iload_n 2, 1) := by decide +kernel
theorem dX7_firm_44 : decode cX7_firm 44 = .ok (.iload_n 3, 1) := by decide +kernel
theorem dX7_firm_45 : decode cX7_firm 45 = .ok (.iconst 2, 1) := by decide +kernel
theorem dX7_firm_46 : decode cX7_firm 46 = .ok (.iload 4, 2) := by decide +kernel
theorem dX7_firm_48 : decode cX7_firm 48 = .ok (.imul, 1) := by decide +kernel
theorem dX7_firm_49 : decode cX7_firm 49 = .ok (.iload 4, 2) := by decide +kernel
theorem dX7_firm_51 : decode cX7_firm 51 = .ok (.imul, 1) := by decide +kernel
theorem dX7_firm_52 : decode cX7_firm 52 = .ok (.invokevirtual 191, 3) := by decide +kernel
theorem dX7_firm_55 : decode cX7_firm 55 = .ok (.istore 6, 2) := by decide +kernel
theorem dX7_firm_57 : decode cX7_firm 57 = .ok (.iload 6, 2) := by decide +kernel
theorem dX7_firm_59 : decode cX7_firm 59 = .ok (.ifCond .eq 6, 3) := by decide +kernel
theorem dX7_firm_62 : decode cX7_firm 62 = .ok (.iload 6, 2) := by decide +kernel
theorem dX7_firm_64 : decode cX7_firm 64 = .ok (.ireturn, 1) := by decide +kernel
theorem dX7_firm_65 : decode cX7_firm 65 = .ok (.aload_n 0, 1) := by decide +kernel
theorem dX7_firm_66 : decode cX7_firm 66 = .ok (.getfield 54, 3) := by decide +kernel
theorem dX7_firm_69 : decode cX7_firm 69 = .ok (.aload_n 0, 1) := by decide +kernel
theorem dX7_firm_70 : decode cX7_firm 70 = .ok (.getfield 60, 3) := by decide +kernel
theorem dX7_firm_73 : decode cX7_firm 73 = .ok (.iload_n 1, 1) := by decide +kernel
theorem dX7_firm_74 : decode cX7_firm 74 = .ok (.aaload, 1) := by decide +kernel
theorem dX7_firm_75 : decode cX7_firm 75 = .ok (.getfield 194, 3) := by decide +kernel
theorem dX7_firm_78 : decode cX7_firm 78 = .ok (.iload_n 3, 1) := by decide +kernel
theorem dX7_firm_79 : decode cX7_firm 79 = .ok (.iload 4, 2) := by decide +kernel
theorem dX7_firm_81 : decode cX7_firm 81 = .ok (.invokevirtual 210, 3) := by decide +kernel
theorem dX7_firm_84 : decode cX7_firm 84 = .ok (.ifCond .ne 6, 3) := by decide +kernel
theorem dX7_firm_87 : decode cX7_firm 87 = .ok (.bipush (-2), 2) := by decide +kernel
theorem dX7_firm_89 : decode cX7_firm 89 = .ok (.ireturn, 1) := by decide +kernel
theorem dX7_firm_90 : decode cX7_firm 90 = .ok (.aload_n 0, 1) := by decide +kernel
theorem dX7_firm_91 : decode cX7_firm 91 = .ok (.getfield 54, 3) := by decide +kernel
theorem dX7_firm_94 : decode cX7_firm 94 = .ok (.invokevirtual 214, 3) := by decide +kernel
theorem dX7_firm_97 : decode cX7_firm 97 = .ok (.aload_n 0, 1) := by decide +kernel
theorem dX7_firm_98 : decode cX7_firm 98 = .ok (.getfield 54, 3) := by decide +kernel
theorem dX7_firm_101 : decode cX7_firm 101 = .ok (.getfield 217, 3) := by decide +kernel
theorem dX7_firm_104 : decode cX7_firm 104 = .ok (.iload 5, 2) := by decide +kernel
theorem dX7_firm_106 : decode cX7_firm 106 = .ok (.iaload, 1) := by decide +kernel
theorem dX7_firm_107 : decode cX7_firm 107 = .ok (.ireturn, 1) := by decide +kernel
theorem dX7_judged_0 : decode cX7_judged 0 = .ok (.iload_n 1, 1) := by decide +kernel
theorem dX7_judged_1 : decode cX7_judged 1 = .ok (.invokestatic 185, 3) := by decide +kernel
theorem dX7_judged_4 : decode cX7_judged 4 = .ok (.ifCond .eq 26, 3) := by decide +kernel
theorem dX7_judged_7 : decode cX7_judged 7 = .ok (.iload_n 2, 1) := by decide +kernel
theorem dX7_judged_8 : decode cX7_judged 8 = .ok (.invokestatic 188, 3) := by decide +kernel
theorem dX7_judged_11 : decode cX7_judged 11 = .ok (.ifCond .eq 19, 3) := by decide +kernel
theorem dX7_judged_14 : decode cX7_judged 14 = .ok (.iload 4, 2) := by decide +kernel
theorem dX7_judged_16 : decode cX7_judged 16 = .ok (.invokestatic 207, 3) := by decide +kernel
theorem dX7_judged_19 : decode cX7_judged 19 = .ok (.ifCond .eq 11, 3) := by decide +kernel
theorem dX7_judged_22 : decode cX7_judged 22 = .ok (.iload 5, 2) := by decide +kernel
theorem dX7_judged_24 : decode cX7_judged 24 = .ok (.invokestatic 185, 3) := by decide +kernel
theorem dX7_judged_27 : decode cX7_judged 27 = .ok (.ifCond .ne 5, 3) := by decide +kernel
theorem dX7_judged_30 : decode cX7_judged 30 = .ok (.iconst (-1), 1) := by decide +kernel
theorem dX7_judged_31 : decode cX7_judged 31 = .ok (.ireturn, 1) := by decide +kernel
theorem dX7_judged_32 : decode cX7_judged 32 = .ok (.aload_n 0, 1) := by decide +kernel
theorem dX7_judged_33 : decode cX7_judged 33 = .ok (.getfield 60, 3) := by decide +kernel
theorem dX7_judged_36 : decode cX7_judged 36 = .ok (.iload_n 1, 1) := by decide +kernel
theorem dX7_judged_37 : decode cX7_judged 37 = .ok (.aaload, 1) := by decide +kernel
theorem dX7_judged_38 : decode cX7_judged 38 = .ok (.iload_n 2, 1) := by decide +kernel
theorem dX7_judged_39 : decode cX7_judged 39 = .ok (.iload_n 3, 1) := by decide +kernel
theorem dX7_judged_40 : decode cX7_judged 40 = .ok (.iconst 2, 1) := by decide +kernel
theorem dX7_judged_41 : decode cX7_judged 41 = .ok (.iload 4, 2) := by decide +kernel
theorem dX7_judged_43 : decode cX7_judged 43 = .ok (.imul, 1) := by decide +kernel
theorem dX7_judged_44 : decode cX7_judged 44 = .ok (.iload 4, 2) := by decide +kernel
theorem dX7_judged_46 : decode cX7_judged 46 = .ok (.imul, 1) := by decide +kernel
theorem dX7_judged_47 : decode cX7_judged 47 = .ok (.invokevirtual 191, 3) := by decide +kernel
theorem dX7_judged_50 : decode cX7_judged 50 = .ok (.istore 6, 2) := by decide +kernel
theorem dX7_judged_52 : decode cX7_judged 52 = .ok (.iload 6, 2) := by decide +kernel
theorem dX7_judged_54 : decode cX7_judged 54 = .ok (.ifCond .ne 19, 3) := by decide +kernel
theorem dX7_judged_57 : decode cX7_judged 57 = .ok (.aload_n 0, 1) := by decide +kernel
theorem dX7_judged_58 : decode cX7_judged 58 = .ok (.getfield 60, 3) := by decide +kernel
theorem dX7_judged_61 : decode cX7_judged 61 = .ok (.iload 5, 2) := by decide +kernel
theorem dX7_judged_63 : decode cX7_judged 63 = .ok (.aaload, 1) := by decide +kernel
theorem dX7_judged_64 : decode cX7_judged 64 = .ok (.iload_n 2, 1) := by decide +kernel
theorem dX7_judged_65 : decode cX7_judged 65 = .ok (.iconst 0, 1) := by decide +kernel
theorem dX7_judged_66 : decode cX7_judged 66 = .ok (.iload 4, 2) := by decide +kernel
theorem dX7_judged_68 : decode cX7_judged 68 = .ok (.invokevirtual 191, 3) := by decide +kernel
theorem dX7_judged_71 : decode cX7_judged 71 = .ok (.istore 6, 2) := by decide +kernel
theorem dX7_judged_73 : decode cX7_judged 73 = .ok (.iload 6, 2) := by decide +kernel
theorem dX7_judged_75 : decode cX7_judged 75 = .ok (.ifCond .eq 6, 3) := by decide +kernel
theorem dX7_judged_78 : decode cX7_judged 78 = .ok (.iload 6, 2) := by decide +kernel
theorem dX7_judged_80 : decode cX7_judged 80 = .ok (.ireturn, 1) := by decide +kernel
theorem dX7_judged_81 : decode cX7_judged 81 = .ok (.aload_n 0, 1) := by decide +kernel
theorem dX7_judged_82 : decode cX7_judged 82 = .ok (.getfield 54, 3) := by decide +kernel
theorem dX7_judged_85 : decode cX7_judged 85 = .ok (.aload_n 0, 1) := by decide +kernel
theorem dX7_judged_86 : decode cX7_judged 86 = .ok (.getfield 60, 3) := by decide +kernel
theorem dX7_judged_89 : decode cX7_judged 89 = .ok (.iload_n 1, 1) := by decide +kernel
theorem dX7_judged_90 : decode cX7_judged 90 = .ok (.aaload, 1) := by decide +kernel
theorem dX7_judged_91 : decode cX7_judged 91 = .ok (.getfield 194, 3) := by decide +kernel
theorem dX7_judged_94 : decode cX7_judged 94 = .ok (.iload_n 3, 1) := by decide +kernel
theorem dX7_judged_95 : decode cX7_judged 95 = .ok (.iload 4, 2) := by decide +kernel
theorem dX7_judged_97 : decode cX7_judged 97 = .ok (.invokevirtual 210, 3) := by decide +kernel
theorem dX7_judged_100 : decode cX7_judged 100 = .ok (.ifCond .eq 23, 3) := by decide +kernel
theorem dX7_judged_103 : decode cX7_judged 103 = .ok (.aload_n 0, 1) := by decide +kernel
theorem dX7_judged_104 : decode cX7_judged 104 = .ok (.getfield 54, 3) := by decide +kernel
theorem dX7_judged_107 : decode cX7_judged 107 = .ok (.aload_n 0, 1) := by decide +kernel
theorem dX7_judged_108 : decode cX7_judged 108 = .ok (.getfield 60, 3) := by decide +kernel
theorem dX7_judged_111 : decode cX7_judged 111 = .ok (.iload 5, 2) := by decide +kernel
theorem dX7_judged_113 : decode cX7_judged 113 = .ok (.aaload, 1) := by decide +kernel
theorem dX7_judged_114 : decode cX7_judged 114 = .ok (.getfield 194, 3) := by decide +kernel
theorem dX7_judged_117 : decode cX7_judged 117 = .ok (.invokevirtual 220, 3) := by decide +kernel
theorem dX7_judged_120 : decode cX7_judged 120 = .ok (.ifCond .ne 6, 3) := by decide +kernel
theorem dX7_judged_123 : decode cX7_judged 123 = .ok (.bipush (-2), 2) := by decide +kernel
theorem dX7_judged_125 : decode cX7_judged 125 = .ok (.ireturn, 1) := by decide +kernel
theorem dX7_judged_126 : decode cX7_judged 126 = .ok (.aload_n 0, 1) := by decide +kernel
theorem dX7_judged_127 : decode cX7_judged 127 = .ok (.getfield 54, 3) := by decide +kernel
theorem dX7_judged_130 : decode cX7_judged 130 = .ok (.invokevirtual 224, 3) := by decide +kernel
theorem dX7_judged_133 : decode cX7_judged 133 = .ok (.ireturn, 1) := by decide +kernel
theorem dX7_sheet_0 : decode cX7_sheet 0 = .ok (.iload_n 1, 1) := by decide +kernel
theorem dX7_sheet_1 : decode cX7_sheet 1 = .ok (.invokestatic 185, 3) := by decide +kernel
theorem dX7_sheet_4 : decode cX7_sheet 4 = .ok (.ifCond .eq 16, 3) := by decide +kernel
theorem dX7_sheet_7 : decode cX7_sheet 7 = .ok (.iload_n 2, 1) := by decide +kernel
theorem dX7_sheet_8 : decode cX7_sheet 8 = .ok (.invokestatic 188, 3) := by decide +kernel
theorem dX7_sheet_11 : decode cX7_sheet 11 = .ok (.ifCond .eq 9, 3) := by decide +kernel
theorem dX7_sheet_14 : decode cX7_sheet 14 = .ok (.iload_n 3, 1) := by decide +kernel
theorem dX7_sheet_15 : decode cX7_sheet 15 = .ok (.bipush 100, 2) := by decide +kernel
theorem dX7_sheet_17 : decode cX7_sheet 17 = .ok (.if_icmp .le 5, 3) := by decide +kernel
theorem dX7_sheet_20 : decode cX7_sheet 20 = .ok (.iconst (-1), 1) := by decide +kernel
theorem dX7_sheet_21 : decode cX7_sheet 21 = .ok (.ireturn, 1) := by decide +kernel
theorem dX7_sheet_22 : decode cX7_sheet 22 = .ok (.iload_n 3, 1) := by decide +kernel
theorem dX7_sheet_23 : decode cX7_sheet 23 = .ok (.ifCond .ge 6, 3) := by decide +kernel
theorem dX7_sheet_26 : decode cX7_sheet 26 = .ok (.bipush (-14), 2) := by decide +kernel
theorem dX7_sheet_28 : decode cX7_sheet 28 = .ok (.ireturn, 1) := by decide +kernel
theorem dX7_sheet_29 : decode cX7_sheet 29 = .ok (.aload_n 0, 1) := by decide +kernel
theorem dX7_sheet_30 : decode cX7_sheet 30 = .ok (.getfield 60, 3) := by decide +kernel
theorem dX7_sheet_33 : decode cX7_sheet 33 = .ok (.iload_n 1, 1) := by decide +kernel
theorem dX7_sheet_34 : decode cX7_sheet 34 = .ok (.aaload, 1) := by decide +kernel
theorem dX7_sheet_35 : decode cX7_sheet 35 = .ok (.iload_n 2, 1) := by decide +kernel
theorem dX7_sheet_36 : decode cX7_sheet 36 = .ok (.iload_n 3, 1) := by decide +kernel
theorem dX7_sheet_37 : decode cX7_sheet 37 = .ok (.invokevirtual 227, 3) := by decide +kernel
theorem dX7_sheet_40 : decode cX7_sheet 40 = .ok (.iload_n 3, 1) := by decide +kernel
theorem dX7_sheet_41 : decode cX7_sheet 41 = .ok (.ireturn, 1) := by decide +kernel
theorem dX7_drop_0 : decode cX7_drop 0 = .ok (.iload_n 1, 1) := by decide +kernel
theorem dX7_drop_1 : decode cX7_drop 1 = .ok (.invokestatic 185, 3) := by decide +kernel
theorem dX7_drop_4 : decode cX7_drop 4 = .ok (.ifCond .ne 5, 3) := by decide +kernel
theorem dX7_drop_7 : decode cX7_drop 7 = .ok (.iconst (-1), 1) := by decide +kernel
theorem dX7_drop_8 : decode cX7_drop 8 = .ok (.ireturn, 1) := by decide +kernel
theorem dX7_drop_9 : decode cX7_drop 9 = .ok (.aload_n 0, 1) := by decide +kernel
theorem dX7_drop_10 : decode cX7_drop 10 = .ok (.getfield 60, 3) := by decide +kernel
theorem dX7_drop_13 : decode cX7_drop 13 = .ok (.iload_n 1, 1) := by decide +kernel
theorem dX7_drop_14 : decode cX7_drop 14 = .ok (.aaload, 1) := by decide +kernel
theorem dX7_drop_15 : decode cX7_drop 15 = .ok (.getfield 231, 3) := by decide +kernel
theorem dX7_drop_18 : decode cX7_drop 18 = .ok (.ifCond .ne 6, 3) := by decide +kernel
theorem dX7_drop_21 : decode cX7_drop 21 = .ok (.bipush (-11), 2) := by decide +kernel
theorem dX7_drop_23 : decode cX7_drop 23 = .ok (.ireturn, 1) := by decide +kernel
theorem dX7_drop_24 : decode cX7_drop 24 = .ok (.aload_n 0, 1) := by decide +kernel
theorem dX7_drop_25 : decode cX7_drop 25 = .ok (.getfield 60, 3) := by decide +kernel
theorem dX7_drop_28 : decode cX7_drop 28 = .ok (.iload_n 1, 1) := by decide +kernel
theorem dX7_drop_29 : decode cX7_drop 29 = .ok (.aaload, 1) := by decide +kernel
theorem dX7_drop_30 : decode cX7_drop 30 = .ok (.iconst 0, 1) := by decide +kernel
theorem dX7_drop_31 : decode cX7_drop 31 = .ok (.putfield 231, 3) := by decide +kernel
theorem dX7_drop_34 : decode cX7_drop 34 = .ok (.aload_n 0, 1) := by decide +kernel
theorem dX7_drop_35 : decode cX7_drop 35 = .ok (.getfield 60, 3) := by decide +kernel
theorem dX7_drop_38 : decode cX7_drop 38 = .ok (.iload_n 1, 1) := by decide +kernel
theorem dX7_drop_39 : decode cX7_drop 39 = .ok (.aaload, 1) := by decide +kernel
theorem dX7_drop_40 : decode cX7_drop 40 = .ok (.getfield 234, 3) := by decide +kernel
theorem dX7_drop_43 : decode cX7_drop 43 = .ok (.ireturn, 1) := by decide +kernel
theorem dX7_item_0 : decode cX7_item 0 = .ok (.iload_n 1, 1) := by decide +kernel
theorem dX7_item_1 : decode cX7_item 1 = .ok (.invokestatic 185, 3) := by decide +kernel
theorem dX7_item_4 : decode cX7_item 4 = .ok (.ifCond .eq 10, 3) := by decide +kernel
theorem dX7_item_7 : decode cX7_item 7 = .ok (.iload_n 2, 1) := by decide +kernel
theorem dX7_item_8 : decode cX7_item 8 = .ok (.invokestatic 188, 3) := by decide +kernel
theorem dX7_item_11 : decode cX7_item 11 = .ok (.ifCond .ne 5, 3) := by decide +kernel
theorem dX7_item_14 : decode cX7_item 14 = .ok (.iconst (-1), 1) := by decide +kernel
theorem dX7_item_15 : decode cX7_item 15 = .ok (.ireturn, 1) := by decide +kernel
theorem dX7_item_16 : decode cX7_item 16 = .ok (.aload_n 0, 1) := by decide +kernel
theorem dX7_item_17 : decode cX7_item 17 = .ok (.getfield 60, 3) := by decide +kernel
theorem dX7_item_20 : decode cX7_item 20 = .ok (.iload_n 1, 1) := by decide +kernel
theorem dX7_item_21 : decode cX7_item 21 = .ok (.aaload, 1) := by decide +kernel
theorem dX7_item_22 : decode cX7_item 22 = .ok (.iload_n 2, 1) := by decide +kernel
theorem dX7_item_23 : decode cX7_item 23 = .ok (.iload_n 3, 1) := by decide +kernel
theorem dX7_item_24 : decode cX7_item 24 = .ok (.iconst 1, 1) := by decide +kernel
theorem dX7_item_25 : decode cX7_item 25 = .ok (.invokevirtual 191, 3) := by decide +kernel
theorem dX7_item_28 : decode cX7_item 28 = .ok (.istore 5, 2) := by decide +kernel
theorem dX7_item_30 : decode cX7_item 30 = .ok (.iload 5, 2) := by decide +kernel
theorem dX7_item_32 : decode cX7_item 32 = .ok (.ifCond .eq 6, 3) := by decide +kernel
theorem dX7_item_35 : decode cX7_item 35 = .ok (.iload 5, 2) := by decide +kernel
theorem dX7_item_37 : decode cX7_item 37 = .ok (.ireturn, 1) := by decide +kernel
theorem dX7_item_38 : decode cX7_item 38 = .ok (.aload_n 0, 1) := by decide +kernel
theorem dX7_item_39 : decode cX7_item 39 = .ok (.getfield 60, 3) := by decide +kernel
theorem dX7_item_42 : decode cX7_item 42 = .ok (.iload_n 1, 1) := by decide +kernel
theorem dX7_item_43 : decode cX7_item 43 = .ok (.aaload, 1) := by decide +kernel
theorem dX7_item_44 : decode cX7_item 44 = .ok (.getfield 194, 3) := by decide +kernel
theorem dX7_item_47 : decode cX7_item 47 = .ok (.iload_n 3, 1) := by decide +kernel
theorem dX7_item_48 : decode cX7_item 48 = .ok (.iload_n 2, 1) := by decide +kernel
theorem dX7_item_49 : decode cX7_item 49 = .ok (.iload 4, 2) := by decide +kernel
theorem dX7_item_51 : decode cX7_item 51 = .ok (.invokestatic 235, 3) := by decide +kernel
theorem dX7_item_54 : decode cX7_item 54 = .ok (.iastore, 1) := by decide +kernel
theorem dX7_item_55 : decode cX7_item 55 = .ok (.iconst 1, 1) := by decide +kernel
theorem dX7_item_56 : decode cX7_item 56 = .ok (.ireturn, 1) := by decide +kernel
theorem dX7_copy_0 : decode cX7_copy 0 = .ok (.iload_n 1, 1) := by decide +kernel
theorem dX7_copy_1 : decode cX7_copy 1 = .ok (.invokestatic 185, 3) := by decide +kernel
theorem dX7_copy_4 : decode cX7_copy 4 = .ok (.ifCond .eq 10, 3) := by decide +kernel
theorem dX7_copy_7 : decode cX7_copy 7 = .ok (.iload_n 3, 1) := by decide +kernel
theorem dX7_copy_8 : decode cX7_copy 8 = .ok (.invokestatic 185, 3) := by decide +kernel
theorem dX7_copy_11 : decode cX7_copy 11 = .ok (.ifCond .ne 5, 3) := by decide +kernel
theorem dX7_copy_14 : decode cX7_copy 14 = .ok (.iconst (-1), 1) := by decide +kernel
theorem dX7_copy_15 : decode cX7_copy 15 = .ok (.ireturn, 1) := by decide +kernel
theorem dX7_copy_16 : decode cX7_copy 16 = .ok (.aload_n 0, 1) := by decide +kernel
theorem dX7_copy_17 : decode cX7_copy 17 = .ok (.getfield 60, 3) := by decide +kernel
theorem dX7_copy_20 : decode cX7_copy 20 = .ok (.iload_n 1, 1) := by decide +kernel
theorem dX7_copy_21 : decode cX7_copy 21 = .ok (.aaload, 1) := by decide +kernel
theorem dX7_copy_22 : decode cX7_copy 22 = .ok (.getfield 231, 3) := by decide +kernel
theorem dX7_copy_25 : decode cX7_copy 25 = .ok (.ifCond .eq 15, 3) := by decide +kernel
theorem dX7_copy_28 : decode cX7_copy 28 = .ok (.aload_n 0, 1) := by decide +kernel
theorem dX7_copy_29 : decode cX7_copy 29 = .ok (.getfield 60, 3) := by decide +kernel
theorem dX7_copy_32 : decode cX7_copy 32 = .ok (.iload_n 3, 1) := by decide +kernel
theorem dX7_copy_33 : decode cX7_copy 33 = .ok (.aaload, 1) := by decide +kernel
theorem dX7_copy_34 : decode cX7_copy 34 = .ok (.getfield 231, 3) := by decide +kernel
theorem dX7_copy_37 : decode cX7_copy 37 = .ok (.ifCond .ne 6, 3) := by decide +kernel
theorem dX7_copy_40 : decode cX7_copy 40 = .ok (.bipush (-11), 2) := by decide +kernel
theorem dX7_copy_42 : decode cX7_copy 42 = .ok (.ireturn, 1) := by decide +kernel
theorem dX7_copy_43 : decode cX7_copy 43 = .ok (.aload_n 0, 1) := by decide +kernel
theorem dX7_copy_44 : decode cX7_copy 44 = .ok (.getfield 60, 3) := by decide +kernel
theorem dX7_copy_47 : decode cX7_copy 47 = .ok (.iload_n 1, 1) := by decide +kernel
theorem dX7_copy_48 : decode cX7_copy 48 = .ok (.aaload, 1) := by decide +kernel
theorem dX7_copy_49 : decode cX7_copy 49 = .ok (.aload_n 0, 1) := by decide +kernel
theorem dX7_copy_50 : decode cX7_copy 50 = .ok (.getfield 60, 3) := by decide +kernel
theorem dX7_copy_53 : decode cX7_copy 53 = .ok (.iload_n 3, 1) := by decide +kernel
theorem dX7_copy_54 : decode cX7_copy 54 = .ok (.aaload, 1) := by decide +kernel
theorem dX7_copy_55 : decode cX7_copy 55 = .ok (.getfield 238, 3) := by decide +kernel
theorem dX7_copy_58 : decode cX7_copy 58 = .ok (.iload_n 2, 1) := by decide +kernel
theorem dX7_copy_59 : decode cX7_copy 59 = .ok (.iload 5, 2) := by decide +kernel
theorem dX7_copy_61 : decode cX7_copy 61 = .ok (.invokevirtual 191, 3) := by decide +kernel
theorem dX7_copy_64 : decode cX7_copy 64 = .ok (.istore 6, 2) := by decide +kernel
theorem dX7_copy_66 : decode cX7_copy 66 = .ok (.iload 6, 2) := by decide +kernel
theorem dX7_copy_68 : decode cX7_copy 68 = .ok (.ifCond .ne 27, 3) := by decide +kernel
theorem dX7_copy_71 : decode cX7_copy 71 = .ok (.aload_n 0, 1) := by decide +kernel
theorem dX7_copy_72 : decode cX7_copy 72 = .ok (.getfield 60, 3) := by decide +kernel
theorem dX7_copy_75 : decode cX7_copy 75 = .ok (.iload_n 3, 1) := by decide +kernel
theorem dX7_copy_76 : decode cX7_copy 76 = .ok (.aaload, 1) := by decide +kernel
theorem dX7_copy_77 : decode cX7_copy 77 = .ok (.aload_n 0, 1) := by decide +kernel
theorem dX7_copy_78 : decode cX7_copy 78 = .ok (.getfield 60, 3) := by decide +kernel
theorem dX7_copy_81 : decode cX7_copy 81 = .ok (.iload_n 3, 1) := by decide +kernel
theorem dX7_copy_82 : decode cX7_copy 82 = .ok (.aaload, 1) := by decide +kernel
theorem dX7_copy_83 : decode cX7_copy 83 = .ok (.getfield 238, 3) := by decide +kernel
theorem dX7_copy_86 : decode cX7_copy 86 = .ok (.iload 4, 2) := by decide +kernel
theorem dX7_copy_88 : decode cX7_copy 88 = .ok (.iload 5, 2) := by decide +kernel
theorem dX7_copy_90 : decode cX7_copy 90 = .ok (.invokevirtual 191, 3) := by decide +kernel
theorem dX7_copy_93 : decode cX7_copy 93 = .ok (.istore 6, 2) := by decide +kernel
theorem dX7_copy_95 : decode cX7_copy 95 = .ok (.iload 6, 2) := by decide +kernel
theorem dX7_copy_97 : decode cX7_copy 97 = .ok (.ifCond .eq 6, 3) := by decide +kernel
theorem dX7_copy_100 : decode cX7_copy 100 = .ok (.iload 6, 2) := by decide +kernel
theorem dX7_copy_102 : decode cX7_copy 102 = .ok (.ireturn, 1) := by decide +kernel
theorem dX7_copy_103 : decode cX7_copy 103 = .ok (.aload_n 0, 1) := by decide +kernel
theorem dX7_copy_104 : decode cX7_copy 104 = .ok (.getfield 60, 3) := by decide +kernel
theorem dX7_copy_107 : decode cX7_copy 107 = .ok (.iload_n 1, 1) := by decide +kernel
theorem dX7_copy_108 : decode cX7_copy 108 = .ok (.aaload, 1) := by decide +kernel
theorem dX7_copy_109 : decode cX7_copy 109 = .ok (.getfield 194, 3) := by decide +kernel
theorem dX7_copy_112 : decode cX7_copy 112 = .ok (.iload_n 2, 1) := by decide +kernel
theorem dX7_copy_113 : decode cX7_copy 113 = .ok (.aload_n 0, 1) := by decide +kernel
theorem dX7_copy_114 : decode cX7_copy 114 = .ok (.getfield 60, 3) := by decide +kernel
theorem dX7_copy_117 : decode cX7_copy 117 = .ok (.iload_n 3, 1) := by decide +kernel
theorem dX7_copy_118 : decode cX7_copy 118 = .ok (.aaload, 1) := by decide +kernel
theorem dX7_copy_119 : decode cX7_copy 119 = .ok (.getfield 194, 3) := by decide +kernel
theorem dX7_copy_122 : decode cX7_copy 122 = .ok (.iload 4, 2) := by decide +kernel
theorem dX7_copy_124 : decode cX7_copy 124 = .ok (.iload 5, 2) := by decide +kernel
theorem dX7_copy_126 : decode cX7_copy 126 = .ok (.invokestatic 241, 3) := by decide +kernel
theorem dX7_copy_129 : decode cX7_copy 129 = .ok (.iload 5, 2) := by decide +kernel
theorem dX7_copy_131 : decode cX7_copy 131 = .ok (.ireturn, 1) := by decide +kernel
theorem dX7_isFrom_0 : decode cX7_isFrom 0 = .ok (.iload_n 0, 1) := by decide +kernel
theorem dX7_isFrom_1 : decode cX7_isFrom 1 = .ok (.iload_n 1, 1) := by decide +kernel
theorem dX7_isFrom_2 : decode cX7_isFrom 2 = .ok (.if_icmp .lt 12, 3) := by decide +kernel
theorem dX7_isFrom_5 : decode cX7_isFrom 5 = .ok (.iload_n 0, 1) := by decide +kernel
theorem dX7_isFrom_6 : decode cX7_isFrom 6 = .ok (.iload_n 2, 1) := by decide +kernel
theorem dX7_isFrom_7 : decode cX7_isFrom 7 = .ok (.if_icmp .gt 7, 3) := by decide +kernel
theorem dX7_isFrom_10 : decode cX7_isFrom 10 = .ok (.iconst 1, 1) := by decide +kernel
theorem dX7_isFrom_11 : decode cX7_isFrom 11 = .ok (.goto 4, 3) := by decide +kernel
theorem dX7_isFrom_14 : decode cX7_isFrom 14 = .ok (.iconst 0, 1) := by decide +kernel
theorem dX7_isFrom_15 : decode cX7_isFrom 15 = .ok (.ireturn, 1) := by decide +kernel
theorem dX7_isOfBride_0 : decode cX7_isOfBride 0 = .ok (.iload_n 1, 1) := by decide +kernel
theorem dX7_isOfBride_1 : decode cX7_isOfBride 1 = .ok (.getstatic 247, 3) := by decide +kernel
theorem dX7_isOfBride_4 : decode cX7_isOfBride 4 = .ok (.iload_n 0, 1) := by decide +kernel
theorem dX7_isOfBride_5 : decode cX7_isOfBride 5 = .ok (.iaload, 1) := by decide +kernel
theorem dX7_isOfBride_6 : decode cX7_isOfBride 6 = .ok (.getstatic 250, 3) := by decide +kernel
theorem dX7_isOfBride_9 : decode cX7_isOfBride 9 = .ok (.iload_n 0, 1) := by decide +kernel
theorem dX7_isOfBride_10 : decode cX7_isOfBride 10 = .ok (.iaload, 1) := by decide +kernel
theorem dX7_isOfBride_11 : decode cX7_isOfBride 11 = .ok (.invokestatic 81, 3) := by decide +kernel
theorem dX7_isOfBride_14 : decode cX7_isOfBride 14 = .ok (.ireturn, 1) := by decide +kernel
theorem dX7_isOfShoe_0 : decode cX7_isOfShoe 0 = .ok (.iload_n 1, 1) := by decide +kernel
theorem dX7_isOfShoe_1 : decode cX7_isOfShoe 1 = .ok (.getstatic 253, 3) := by decide +kernel
theorem dX7_isOfShoe_4 : decode cX7_isOfShoe 4 = .ok (.iload_n 0, 1) := by decide +kernel
theorem dX7_isOfShoe_5 : decode cX7_isOfShoe 5 = .ok (.iaload, 1) := by decide +kernel
theorem dX7_isOfShoe_6 : decode cX7_isOfShoe 6 = .ok (.getstatic 256, 3) := by decide +kernel
theorem dX7_isOfShoe_9 : decode cX7_isOfShoe 9 = .ok (.iload_n 0, 1) := by decide +kernel
theorem dX7_isOfShoe_10 : decode cX7_isOfShoe 10 = .ok (.iaload, 1) := by decide +kernel
theorem dX7_isOfShoe_11 : decode cX7_isOfShoe 11 = .ok (.invokestatic 81, 3) := by decide +kernel
theorem dX7_isOfShoe_14 : decode cX7_isOfShoe 14 = .ok (.ireturn, 1) := by decide +kernel
theorem dX7_isSide_0 : decode cX7_isSide 0 = .ok (.iload_n 0, 1) := by decide +kernel
theorem dX7_isSide_1 : decode cX7_isSide 1 = .ok (.iconst 0, 1) := by decide +kernel
theorem dX7_isSide_2 : decode cX7_isSide 2 = .ok (.iconst 1, 1) := by decide +kernel
theorem dX7_isSide_3 : decode cX7_isSide 3 = .ok (.invokestatic 81, 3) := by decide +kernel
theorem dX7_isSide_6 : decode cX7_isSide 6 = .ok (.ireturn, 1) := by decide +kernel
theorem dX7_isHour_0 : decode cX7_isHour 0 = .ok (.iload_n 0, 1) := by decide +kernel
theorem dX7_isHour_1 : decode cX7_isHour 1 = .ok (.iconst 0, 1) := by decide +kernel
theorem dX7_isHour_2 : decode cX7_isHour 2 = .ok (.bipush 11, 2) := by decide +kernel
theorem dX7_isHour_4 : decode cX7_isHour 4 = .ok (.invokestatic 81, 3) := by decide +kernel
theorem dX7_isHour_7 : decode cX7_isHour 7 = .ok (.ireturn, 1) := by decide +kernel
theorem dX7_isSheet_0 : decode cX7_isSheet 0 = .ok (.iload_n 0, 1) := by decide +kernel
theorem dX7_isSheet_1 : decode cX7_isSheet 1 = .ok (.iconst 0, 1) := by decide +kernel
theorem dX7_isSheet_2 : decode cX7_isSheet 2 = .ok (.iconst 3, 1) := by decide +kernel
theorem dX7_isSheet_3 : decode cX7_isSheet 3 = .ok (.invokestatic 81, 3) := by decide +kernel
theorem dX7_isSheet_6 : decode cX7_isSheet 6 = .ok (.ireturn, 1) := by decide +kernel
theorem dX7_isLane_0 : decode cX7_isLane 0 = .ok (.iload_n 0, 1) := by decide +kernel
theorem dX7_isLane_1 : decode cX7_isLane 1 = .ok (.iconst 0, 1) := by decide +kernel
theorem dX7_isLane_2 : decode cX7_isLane 2 = .ok (.iconst 2, 1) := by decide +kernel
theorem dX7_isLane_3 : decode cX7_isLane 3 = .ok (.invokestatic 81, 3) := by decide +kernel
theorem dX7_isLane_6 : decode cX7_isLane 6 = .ok (.ireturn, 1) := by decide +kernel
theorem dX7_isRanked_0 : decode cX7_isRanked 0 = .ok (.iload_n 0, 1) := by decide +kernel
theorem dX7_isRanked_1 : decode cX7_isRanked 1 = .ok (.iconst 2, 1) := by decide +kernel
theorem dX7_isRanked_2 : decode cX7_isRanked 2 = .ok (.bipush 7, 2) := by decide +kernel
theorem dX7_isRanked_4 : decode cX7_isRanked 4 = .ok (.invokestatic 81, 3) := by decide +kernel
theorem dX7_isRanked_7 : decode cX7_isRanked 7 = .ok (.ireturn, 1) := by decide +kernel
theorem dX7_isBride_0 : decode cX7_isBride 0 = .ok (.iload_n 1, 1) := by decide +kernel
theorem dX7_isBride_1 : decode cX7_isBride 1 = .ok (.iconst 0, 1) := by decide +kernel
theorem dX7_isBride_2 : decode cX7_isBride 2 = .ok (.aload_n 0, 1) := by decide +kernel
theorem dX7_isBride_3 : decode cX7_isBride 3 = .ok (.getfield 10, 3) := by decide +kernel
theorem dX7_isBride_6 : decode cX7_isBride 6 = .ok (.getfield 69, 3) := by decide +kernel
theorem dX7_isBride_9 : decode cX7_isBride 9 = .ok (.iconst 1, 1) := by decide +kernel
theorem dX7_isBride_10 : decode cX7_isBride 10 = .ok (.isub, 1) := by decide +kernel
theorem dX7_isBride_11 : decode cX7_isBride 11 = .ok (.invokestatic 81, 3) := by decide +kernel
theorem dX7_isBride_14 : decode cX7_isBride 14 = .ok (.ireturn, 1) := by decide +kernel
theorem dX7_isShoe_0 : decode cX7_isShoe 0 = .ok (.iload_n 1, 1) := by decide +kernel
theorem dX7_isShoe_1 : decode cX7_isShoe 1 = .ok (.iconst 0, 1) := by decide +kernel
theorem dX7_isShoe_2 : decode cX7_isShoe 2 = .ok (.aload_n 0, 1) := by decide +kernel
theorem dX7_isShoe_3 : decode cX7_isShoe 3 = .ok (.getfield 10, 3) := by decide +kernel
theorem dX7_isShoe_6 : decode cX7_isShoe 6 = .ok (.getfield 88, 3) := by decide +kernel
theorem dX7_isShoe_9 : decode cX7_isShoe 9 = .ok (.iconst 1, 1) := by decide +kernel
theorem dX7_isShoe_10 : decode cX7_isShoe 10 = .ok (.isub, 1) := by decide +kernel
theorem dX7_isShoe_11 : decode cX7_isShoe 11 = .ok (.invokestatic 81, 3) := by decide +kernel
theorem dX7_isShoe_14 : decode cX7_isShoe 14 = .ok (.ireturn, 1) := by decide +kernel
theorem dX8_init_0 : decode cX8_init 0 = .ok (.aload_n 0, 1) := by decide +kernel
theorem dX8_init_1 : decode cX8_init 1 = .ok (.invokespecial 1, 3) := by decide +kernel
theorem dX8_init_4 : decode cX8_init 4 = .ok (.aload_n 0, 1) := by decide +kernel
theorem dX8_init_5 : decode cX8_init 5 = .ok (.bipush 28, 2) := by decide +kernel
theorem dX8_init_7 : decode cX8_init 7 = .ok (.newarray .int, 2) := by decide +kernel
theorem dX8_init_9 : decode cX8_init 9 = .ok (.putfield 7, 3) := by decide +kernel
theorem dX8_init_12 : decode cX8_init 12 = .ok (.aload_n 0, 1) := by decide +kernel
theorem dX8_init_13 : decode cX8_init 13 = .ok (.bipush 64, 2) := by decide +kernel
theorem dX8_init_15 : decode cX8_init 15 = .ok (.newarray .int, 2) := by decide +kernel
theorem dX8_init_17 : decode cX8_init 17 = .ok (.putfield 13, 3) := by decide +kernel
theorem dX8_init_20 : decode cX8_init 20 = .ok (.aload_n 0, 1) := by decide +kernel
theorem dX8_init_21 : decode cX8_init 21 = .ok (.iconst 2, 1) := by decide +kernel
theorem dX8_init_22 : decode cX8_init 22 = .ok (.newarray .int, 2) := by decide +kernel
theorem dX8_init_24 : decode cX8_init 24 = .ok (.putfield 16, 3) := by decide +kernel
theorem dX8_init_27 : decode cX8_init 27 = .ok (.aload_n 0, 1) := by decide +kernel
theorem dX8_init_28 : decode cX8_init 28 = .ok (.bipush 120, 2) := by decide +kernel
theorem dX8_init_30 : decode cX8_init 30 = .ok (.newarray .int, 2) := by decide +kernel
theorem dX8_init_32 : decode cX8_init 32 = .ok (.putfield 19, 3) := by decide +kernel
theorem dX8_init_35 : decode cX8_init 35 = .ok (.aload_n 0, 1) := by decide +kernel
theorem dX8_init_36 : decode cX8_init 36 = .ok (.bipush 64, 2) := by decide +kernel
theorem dX8_init_38 : decode cX8_init 38 = .ok (.newarray .int, 2) := by decide +kernel
theorem dX8_init_40 : decode cX8_init 40 = .ok (.putfield 22, 3) := by decide +kernel
theorem dX8_init_43 : decode cX8_init 43 = .ok (.aload_n 0, 1) := by decide +kernel
theorem dX8_init_44 : decode cX8_init 44 = .ok (.bipush 16, 2) := by decide +kernel
theorem dX8_init_46 : decode cX8_init 46 = .ok (.newarray .int, 2) := by decide +kernel
theorem dX8_init_48 : decode cX8_init 48 = .ok (.putfield 25, 3) := by decide +kernel
theorem dX8_init_51 : decode cX8_init 51 = .ok (.aload_n 0, 1) := by decide +kernel
theorem dX8_init_52 : decode cX8_init 52 = .ok (.bipush 112, 2) := by decide +kernel
theorem dX8_init_54 : decode cX8_init 54 = .ok (.newarray .int, 2) := by decide +kernel
theorem dX8_init_56 : decode cX8_init 56 = .ok (.putfield 28, 3) := by decide +kernel
theorem dX8_init_59 : decode cX8_init 59 = .ok (.aload_n 0, 1) := by decide +kernel
theorem dX8_init_60 : decode cX8_init 60 = .ok (.ldc 31, 2) := by decide +kernel
theorem dX8_init_62 : decode cX8_init 62 = .ok (.newarray .int, 2) := by decide +kernel
theorem dX8_init_64 : decode cX8_init 64 = .ok (.putfield 32, 3) := by decide +kernel
theorem dX8_init_67 : decode cX8_init 67 = .ok (.aload_n 0, 1) := by decide +kernel
theorem dX8_init_68 : decode cX8_init 68 = .ok (.bipush 7, 2) := by decide +kernel
theorem dX8_init_70 : decode cX8_init 70 = .ok (.newarray .int, 2) := by decide +kernel
theorem dX8_init_72 : decode cX8_init 72 = .ok (.putfield 35, 3) := by decide +kernel
theorem dX8_init_75 : decode cX8_init 75 = .ok (.aload_n 0, 1) := by decide +kernel
theorem dX8_init_76 : decode cX8_init 76 = .ok (.sipush 128, 3) := by decide +kernel
theorem dX8_init_79 : decode cX8_init 79 = .ok (.newarray .boolean, 2) := by decide +kernel
theorem dX8_init_81 : decode cX8_init 81 = .ok (.putfield 38, 3) := by decide +kernel
theorem dX8_init_84 : decode cX8_init 84 = .ok (.aload_n 0, 1) := by decide +kernel
theorem dX8_init_85 : decode cX8_init 85 = .ok (.bipush 71, 2) := by decide +kernel
theorem dX8_init_87 : decode cX8_init 87 = .ok (.newarray .boolean, 2) := by decide +kernel
theorem dX8_init_89 : decode cX8_init 89 = .ok (.putfield 42, 3) := by decide +kernel
theorem dX8_init_92 : decode cX8_init 92 = .ok (.aload_n 0, 1) := by decide +kernel
theorem dX8_init_93 : decode cX8_init 93 = .ok (.sipush 1681, 3) := by decide +kernel
theorem dX8_init_96 : decode cX8_init 96 = .ok (.newarray .int, 2) := by decide +kernel
theorem dX8_init_98 : decode cX8_init 98 = .ok (.putfield 45, 3) := by decide +kernel
theorem dX8_init_101 : decode cX8_init 101 = .ok (.aload_n 0, 1) := by decide +kernel
theorem dX8_init_102 : decode cX8_init 102 = .ok (.bipush 94, 2) := by decide +kernel
theorem dX8_init_104 : decode cX8_init 104 = .ok (.newarray .int, 2) := by decide +kernel
theorem dX8_init_106 : decode cX8_init 106 = .ok (.putfield 48, 3) := by decide +kernel
theorem dX8_init_109 : decode cX8_init 109 = .ok (.aload_n 0, 1) := by decide +kernel
theorem dX8_init_110 : decode cX8_init 110 = .ok (.iconst 4, 1) := by decide +kernel
theorem dX8_init_111 : decode cX8_init 111 = .ok (.newarray .int, 2) := by decide +kernel
theorem dX8_init_113 : decode cX8_init 113 = .ok (.putfield 51, 3) := by decide +kernel
theorem dX8_init_116 : decode cX8_init 116 = .ok (.aload_n 0, 1) := by decide +kernel
theorem dX8_init_117 : decode cX8_init 117 = .ok (.iconst 4, 1) := by decide +kernel
theorem dX8_init_118 : decode cX8_init 118 = .ok (.newarray .int, 2) := by decide +kernel
theorem dX8_init_120 : decode cX8_init 120 = .ok (.putfield 54, 3) := by decide +kernel
theorem dX8_init_123 : decode cX8_init 123 = .ok (.aload_n 0, 1) := by decide +kernel
theorem dX8_init_124 : decode cX8_init 124 = .ok (.sipush 400, 3) := by decide +kernel
theorem dX8_init_127 : decode cX8_init 127 = .ok (.newarray .int, 2) := by decide +kernel
theorem dX8_init_129 : decode cX8_init 129 = .ok (.putfield 57, 3) := by decide +kernel
theorem dX8_init_132 : decode cX8_init 132 = .ok (.aload_n 0, 1) := by decide +kernel
theorem dX8_init_133 : decode cX8_init 133 = .ok (.bipush 100, 2) := by decide +kernel
theorem dX8_init_135 : decode cX8_init 135 = .ok (.newarray .int, 2) := by decide +kernel
theorem dX8_init_137 : decode cX8_init 137 = .ok (.putfield 60, 3) := by decide +kernel
theorem dX8_init_140 : decode cX8_init 140 = .ok (.aload_n 0, 1) := by decide +kernel
theorem dX8_init_141 : decode cX8_init 141 = .ok (.bipush 7, 2) := by decide +kernel
theorem dX8_init_143 : decode cX8_init 143 = .ok (.newarray .int, 2) := by decide +kernel
theorem dX8_init_145 : decode cX8_init 145 = .ok (.putfield 63, 3) := by decide +kernel
theorem dX8_init_148 : decode cX8_init 148 = .ok (.aload_n 0, 1) := by decide +kernel
theorem dX8_init_149 : decode cX8_init 149 = .ok (.bipush 7, 2) := by decide +kernel
theorem dX8_init_151 : decode cX8_init 151 = .ok (.newarray .int, 2) := by decide +kernel
theorem dX8_init_153 : decode cX8_init 153 = .ok (.putfield 66, 3) := by decide +kernel
theorem dX8_init_156 : decode cX8_init 156 = .ok (.aload_n 0, 1) := by decide +kernel
theorem dX8_init_157 : decode cX8_init 157 = .ok (.bipush 98, 2) := by decide +kernel
theorem dX8_init_159 : decode cX8_init 159 = .ok (.newarray .int, 2) := by decide +kernel
theorem dX8_init_161 : decode cX8_init 161 = .ok (.putfield 69, 3) := by decide +kernel
theorem dX8_init_164 : decode cX8_init 164 = .ok (.aload_n 0, 1) := by decide +kernel
theorem dX8_init_165 : decode cX8_init 165 = .ok (.bipush 7, 2) := by decide +kernel
theorem dX8_init_167 : decode cX8_init 167 = .ok (.newarray .int, 2) := by decide +kernel
theorem dX8_init_169 : decode cX8_init 169 = .ok (.putfield 72, 3) := by decide +kernel
theorem dX8_init_172 : decode cX8_init 172 = .ok (.aload_n 0, 1) := by decide +kernel
theorem dX8_init_173 : decode cX8_init 173 = .ok (.bipush 7, 2) := by decide +kernel
theorem dX8_init_175 : decode cX8_init 175 = .ok (.newarray .int, 2) := by decide +kernel
theorem dX8_init_177 : decode cX8_init 177 = .ok (.putfield 75, 3) := by decide +kernel
theorem dX8_init_180 : decode cX8_init 180 = .ok (.aload_n 0, 1) := by decide +kernel
theorem dX8_init_181 : decode cX8_init 181 = .ok (.bipush 7, 2) := by decide +kernel
theorem dX8_init_183 : decode cX8_init 183 = .ok (.newarray .int, 2) := by decide +kernel
theorem dX8_init_185 : decode cX8_init 185 = .ok (.putfield 78, 3) := by decide +kernel
theorem dX8_init_188 : decode cX8_init 188 = .ok (.iconst 0, 1) := by decide +kernel
theorem dX8_init_189 : decode cX8_init 189 = .ok (.istore_n 1, 1) := by decide +kernel
theorem dX8_init_190 : decode cX8_init 190 = .ok (.iload_n 1, 1) := by decide +kernel
theorem dX8_init_191 : decode cX8_init 191 = .ok (.iconst 4, 1) := by decide +kernel
theorem dX8_init_192 : decode cX8_init 192 = .ok (.if_icmp .ge 16, 3) := by decide +kernel
theorem dX8_init_195 : decode cX8_init 195 = .ok (.aload_n 0, 1) := by decide +kernel
theorem dX8_init_196 : decode cX8_init 196 = .ok (.getfield 51, 3) := by decide +kernel
theorem dX8_init_199 : decode cX8_init 199 = .ok (.iload_n 1, 1) := by decide +kernel
theorem dX8_init_200 : decode cX8_init 200 = .ok (.iconst (-1), 1) := by decide +kernel
theorem dX8_init_201 : decode cX8_init 201 = .ok (.iastore, 1) := by decide +kernel
theorem dX8_init_202 : decode cX8_init 202 = .ok (.iinc 1 1, 3) := by decide +kernel
theorem dX8_init_205 : decode cX8_init 205 = .ok (.goto (-15), 3) := by decide +kernel
theorem dX8_init_208 : decode cX8_init 208 = .ok (.aload_n 0, 1) := by decide +kernel
theorem dX8_init_209 : decode cX8_init 209 = .ok (.getfield 16, 3) := by decide +kernel
theorem dX8_init_212 : decode cX8_init 212 = .ok (.iconst 0, 1) := by decide +kernel
theorem dX8_init_213 : decode cX8_init 213 = .ok (.iconst 2, 1) := by decide +kernel
theorem dX8_init_214 : decode cX8_init 214 = .ok (.iastore, 1) := by decide +kernel
theorem dX8_init_215 : decode cX8_init 215 = .ok (.aload_n 0, 1) := by decide +kernel
theorem dX8_init_216 : decode cX8_init 216 = .ok (.getfield 16, 3) := by decide +kernel
theorem dX8_init_219 : decode cX8_init 219 = .ok (.iconst 1, 1) := by decide +kernel
theorem dX8_init_220 : decode cX8_init 220 = .ok (.iconst 3, 1) := by decide +kernel
theorem dX8_init_221 : decode cX8_init 221 = .ok (.iastore, 1) := by decide +kernel
theorem dX8_init_222 : decode cX8_init 222 = .ok (.return_, 1) := by decide +kernel
theorem dX8_in_0 : decode cX8_in 0 = .ok (.lload_n 0, 1) := by decide +kernel
theorem dX8_in_1 : decode cX8_in 1 = .ok (.lload_n 2, 1) := by decide +kernel
theorem dX8_in_2 : decode cX8_in 2 = .ok (.lcmp, 1) := by decide +kernel
theorem dX8_in_3 : decode cX8_in 3 = .ok (.ifCond .lt 14, 3) := by decide +kernel
theorem dX8_in_6 : decode cX8_in 6 = .ok (.lload_n 0, 1) := by decide +kernel
theorem dX8_in_7 : decode cX8_in 7 = .ok (.lload 4, 2) := by decide +kernel
theorem dX8_in_9 : decode cX8_in 9 = .ok (.lcmp, 1) := by decide +kernel
theorem dX8_in_10 : decode cX8_in 10 = .ok (.ifCond .gt 7, 3) := by decide +kernel
theorem dX8_in_13 : decode cX8_in 13 = .ok (.iconst 1, 1) := by decide +kernel
theorem dX8_in_14 : decode cX8_in 14 = .ok (.goto 4, 3) := by decide +kernel
theorem dX8_in_17 : decode cX8_in 17 = .ok (.iconst 0, 1) := by decide +kernel
theorem dX8_in_18 : decode cX8_in 18 = .ok (.ireturn, 1) := by decide +kernel
theorem dX8_isBride_0 : decode cX8_isBride 0 = .ok (.iload_n 1, 1) := by decide +kernel
theorem dX8_isBride_1 : decode cX8_isBride 1 = .ok (.i2l, 1) := by decide +kernel
theorem dX8_isBride_2 : decode cX8_isBride 2 = .ok (.lconst 0, 1) := by decide +kernel
theorem dX8_isBride_3 : decode cX8_isBride 3 = .ok (.aload_n 0, 1) := by decide +kernel
theorem dX8_isBride_4 : decode cX8_isBride 4 = .ok (.getfield 81, 3) := by decide +kernel
theorem dX8_isBride_7 : decode cX8_isBride 7 = .ok (.iconst 1, 1) := by decide +kernel
theorem dX8_isBride_8 : decode cX8_isBride 8 = .ok (.isub, 1) := by decide +kernel
theorem dX8_isBride_9 : decode cX8_isBride 9 = .ok (.i2l, 1) := by decide +kernel
theorem dX8_isBride_10 : decode cX8_isBride 10 = .ok (.invokestatic 85, 3) := by decide +kernel
theorem dX8_isBride_13 : decode cX8_isBride 13 = .ok (.ireturn, 1) := by decide +kernel
theorem dX8_isShoe_0 : decode cX8_isShoe 0 = .ok (.iload_n 1, 1) := by decide +kernel
theorem dX8_isShoe_1 : decode cX8_isShoe 1 = .ok (.i2l, 1) := by decide +kernel
theorem dX8_isShoe_2 : decode cX8_isShoe 2 = .ok (.lconst 0, 1) := by decide +kernel
theorem dX8_isShoe_3 : decode cX8_isShoe 3 = .ok (.aload_n 0, 1) := by decide +kernel
theorem dX8_isShoe_4 : decode cX8_isShoe 4 = .ok (.getfield 89, 3) := by decide +kernel
theorem dX8_isShoe_7 : decode cX8_isShoe 7 = .ok (.iconst 1, 1) := by decide +kernel
theorem dX8_isShoe_8 : decode cX8_isShoe 8 = .ok (.isub, 1) := by decide +kernel
theorem dX8_isShoe_9 : decode cX8_isShoe 9 = .ok (.i2l, 1) := by decide +kernel
theorem dX8_isShoe_10 : decode cX8_isShoe 10 = .ok (.invokestatic 85, 3) := by decide +kernel
theorem dX8_isShoe_13 : decode cX8_isShoe 13 = .ok (.ireturn, 1) := by decide +kernel
theorem dX8_isHour_0 : decode cX8_isHour 0 = .ok (.iload_n 0, 1) := by decide +kernel
theorem dX8_isHour_1 : decode cX8_isHour 1 = .ok (.i2l, 1) := by decide +kernel
theorem dX8_isHour_2 : decode cX8_isHour 2 = .ok (.lconst 0, 1) := by decide +kernel
theorem dX8_isHour_3 : decode cX8_isHour 3 = .ok (.ldc2_w 92, 3) := by decide +kernel
theorem dX8_isHour_6 : decode cX8_isHour 6 = .ok (.invokestatic 85, 3) := by decide +kernel
theorem dX8_isHour_9 : decode cX8_isHour 9 = .ok (.ireturn, 1) := by decide +kernel
theorem dX8_isOfBride_0 : decode cX8_isOfBride 0 = .ok (.iload_n 0, 1) := by decide +kernel
theorem dX8_isOfBride_1 : decode cX8_isOfBride 1 = .ok (.iconst 2, 1) := by decide +kernel
theorem dX8_isOfBride_2 : decode cX8_isOfBride 2 = .ok (.if_icmp .ge 17, 3) := by decide +kernel
theorem dX8_isOfBride_5 : decode cX8_isOfBride 5 = .ok (.iload_n 1, 1) := by decide +kernel
theorem dX8_isOfBride_6 : decode cX8_isOfBride 6 = .ok (.i2l, 1) := by decide +kernel
theorem dX8_isOfBride_7 : decode cX8_isOfBride 7 = .ok (.ldc2_w 94, 3) := by decide +kernel
theorem dX8_isOfBride_10 : decode cX8_isOfBride 10 = .ok (.ldc2_w 96, 3) := by decide +kernel
theorem dX8_isOfBride_13 : decode cX8_isOfBride 13 = .ok (.invokestatic 85, 3) := by decide +kernel
theorem dX8_isOfBride_16 : decode cX8_isOfBride 16 = .ok (.goto 23, 3) := by decide +kernel
theorem dX8_isOfBride_19 : decode cX8_isOfBride 19 = .ok (.iload_n 1, 1) := by decide +kernel
theorem dX8_isOfBride_20 : decode cX8_isOfBride 20 = .ok (.i2l, 1) := by decide +kernel
theorem dX8_isOfBride_21 : decode cX8_isOfBride 21 = .ok (.lconst 0, 1) := by decide +kernel
theorem dX8_isOfBride_22 : decode cX8_isOfBride 22 = .ok (.iload_n 0, 1) := by decide +kernel
theorem dX8_isOfBride_23 : decode cX8_isOfBride 23 = .ok (.iconst 2, 1) := by decide +kernel
theorem dX8_isOfBride_24 : decode cX8_isOfBride 24 = .ok (.if_icmp .ne 9, 3) := by decide +kernel
theorem dX8_isOfBride_27 : decode cX8_isOfBride 27 = .ok (.ldc2_w 98, 3) := by decide +kernel
theorem dX8_isOfBride_30 : decode cX8_isOfBride 30 = .ok (.goto 6, 3) := by decide +kernel
theorem dX8_isOfBride_33 : decode cX8_isOfBride 33 = .ok (.ldc2_w 92, 3) := by decide +kernel
theorem dX8_isOfBride_36 : decode cX8_isOfBride 36 = .ok (.invokestatic 85, 3) := by decide +kernel
theorem dX8_isOfBride_39 : decode cX8_isOfBride 39 = .ok (.ireturn, 1) := by decide +kernel
theorem dX8_bride_0 : decode cX8_bride 0 = .ok (.iconst 0, 1) := by decide +kernel
theorem dX8_bride_1 : decode cX8_bride 1 = .ok (.iload_n 1, 1) := by decide +kernel
theorem dX8_bride_2 : decode cX8_bride 2 = .ok (.invokestatic 100, 3) := by decide +kernel
theorem dX8_bride_5 : decode cX8_bride 5 = .ok (.ifCond .eq 28, 3) := by decide +kernel
theorem dX8_bride_8 : decode cX8_bride 8 = .ok (.iconst 1, 1) := by decide +kernel
theorem dX8_bride_9 : decode cX8_bride 9 = .ok (.iload_n 2, 1) := by decide +kernel
theorem dX8_bride_10 : decode cX8_bride 10 = .ok (.invokestatic 100, 3) := by decide +kernel
theorem dX8_bride_13 : decode cX8_bride 13 = .ok (.ifCond .eq 20, 3) := by decide +kernel
theorem dX8_bride_16 : decode cX8_bride 16 = .ok (.iconst 2, 1) := by decide +kernel
theorem dX8_bride_17 : decode cX8_bride 17 = .ok (.iload_n 3, 1) := by decide +kernel
theorem dX8_bride_18 : decode cX8_bride 18 = .ok (.invokestatic 100, 3) := by decide +kernel
theorem dX8_bride_21 : decode cX8_bride 21 = .ok (.ifCond .eq 12, 3) := by decide +kernel
theorem dX8_bride_24 : decode cX8_bride 24 = .ok (.iconst 3, 1) := by decide +kernel
theorem dX8_bride_25 : decode cX8_bride 25 = .ok (.iload 4, 2) := by decide +kernel
theorem dX8_bride_27 : decode cX8_bride 27 = .ok (.invokestatic 100, 3) := by decide +kernel
theorem dX8_bride_30 : decode cX8_bride 30 = .ok (.ifCond .ne 5, 3) := by decide +kernel
theorem dX8_bride_33 : decode cX8_bride 33 = .ok (.iconst (-1), 1) := by decide +kernel
theorem dX8_bride_34 : decode cX8_bride 34 = .ok (.ireturn, 1) := by decide +kernel
theorem dX8_bride_35 : decode cX8_bride 35 = .ok (.aload_n 0, 1) := by decide +kernel
theorem dX8_bride_36 : decode cX8_bride 36 = .ok (.getfield 81, 3) := by decide +kernel
theorem dX8_bride_39 : decode cX8_bride 39 = .ok (.bipush 7, 2) := by decide +kernel
theorem dX8_bride_41 : decode cX8_bride 41 = .ok (.if_icmp .ne 6, 3) := by decide +kernel
theorem dX8_bride_44 : decode cX8_bride 44 = .ok (.bipush (-3), 2) := by decide +kernel
theorem dX8_bride_46 : decode cX8_bride 46 = .ok (.ireturn, 1) := by decide +kernel
theorem dX8_bride_47 : decode cX8_bride 47 = .ok (.aload_n 0, 1) := by decide +kernel
theorem dX8_bride_48 : decode cX8_bride 48 = .ok (.getfield 7, 3) := by decide +kernel
theorem dX8_bride_51 : decode cX8_bride 51 = .ok (.iconst 4, 1) := by decide +kernel
theorem dX8_bride_52 : decode cX8_bride 52 = .ok (.aload_n 0, 1) := by decide +kernel
theorem dX8_bride_53 : decode cX8_bride 53 = .ok (.getfield 81, 3) := by decide +kernel
theorem dX8_bride_56 : decode cX8_bride 56 = .ok (.imul, 1) := by decide +kernel
theorem dX8_bride_57 : decode cX8_bride 57 = .ok (.iload_n 1, 1) := by decide +kernel
theorem dX8_bride_58 : decode cX8_bride 58 = .ok (.iastore, 1) := by decide +kernel
theorem dX8_bride_59 : decode cX8_bride 59 = .ok (.aload_n 0, 1) := by decide +kernel
theorem dX8_bride_60 : decode cX8_bride 60 = .ok (.getfield 7, 3) := by decide +kernel
theorem dX8_bride_63 : decode cX8_bride 63 = .ok (.iconst 4, 1) := by decide +kernel
theorem dX8_bride_64 : decode cX8_bride 64 = .ok (.aload_n 0, 1) := by decide +kernel
theorem dX8_bride_65 : decode cX8_bride 65 = .ok (.getfield 81, 3) := by decide +kernel
theorem dX8_bride_68 : decode cX8_bride 68 = .ok (.imul, 1) := by decide +kernel
theorem dX8_bride_69 : decode cX8_bride 69 = .ok (.iconst 1, 1) := by decide +kernel
theorem dX8_bride_70 : decode cX8_bride 70 = .ok (.iadd, 1) := by decide +kernel
theorem dX8_bride_71 : decode cX8_bride 71 = .ok (.iload_n 2, 1) := by decide +kernel
theorem dX8_bride_72 : decode cX8_bride 72 = .ok (.iastore, 1) := by decide +kernel
theorem dX8_bride_73 : decode cX8_bride 73 = .ok (.aload_n 0, 1) := by decide +kernel
theorem dX8_bride_74 : decode cX8_bride 74 = .ok (.getfield 7, 3) := by decide +kernel
theorem dX8_bride_77 : decode cX8_bride 77 = .ok (.iconst 4, 1) := by decide +kernel
theorem dX8_bride_78 : decode cX8_bride 78 = .ok (.aload_n 0, 1) := by decide +kernel
theorem dX8_bride_79 : decode cX8_bride 79 = .ok (.getfield 81, 3) := by decide +kernel
theorem dX8_bride_82 : decode cX8_bride 82 = .ok (.imul, 1) := by decide +kernel
theorem dX8_bride_83 : decode cX8_bride 83 = .ok (.iconst 2, 1) := by decide +kernel
theorem dX8_bride_84 : decode cX8_bride 84 = .ok (.iadd, 1) := by decide +kernel
theorem dX8_bride_85 : decode cX8_bride 85 = .ok (.iload_n 3, 1) := by decide +kernel
theorem dX8_bride_86 : decode cX8_bride 86 = .ok (.iastore, 1) := by decide +kernel
theorem dX8_bride_87 : decode cX8_bride 87 = .ok (.aload_n 0, 1) := by decide +kernel
theorem dX8_bride_88 : decode cX8_bride 88 = .ok (.getfield 7, 3) := by decide +kernel
theorem dX8_bride_91 : decode cX8_bride 91 = .ok (.iconst 4, 1) := by decide +kernel
theorem dX8_bride_92 : decode cX8_bride 92 = .ok (.aload_n 0, 1) := by decide +kernel
theorem dX8_bride_93 : decode cX8_bride 93 = .ok (.getfield 81, 3) := by decide +kernel
theorem dX8_bride_96 : decode cX8_bride 96 = .ok (.imul, 1) := by decide +kernel
theorem dX8_bride_97 : decode cX8_bride 97 = .ok (.iconst 3, 1) := by decide +kernel
theorem dX8_bride_98 : decode cX8_bride 98 = .ok (.iadd, 1) := by decide +kernel
theorem dX8_bride_99 : decode cX8_bride 99 = .ok (.iload 4, 2) := by decide +kernel
theorem dX8_bride_101 : decode cX8_bride 101 = .ok (.iastore, 1) := by decide +kernel
theorem dX8_bride_102 : decode cX8_bride 102 = .ok (.aload_n 0, 1) := by decide +kernel
theorem dX8_bride_103 : decode cX8_bride 103 = .ok (.dup, 1) := by decide +kernel
theorem dX8_bride_104 : decode cX8_bride 104 = .ok (.getfield 81, 3) := by decide +kernel
theorem dX8_bride_107 : decode cX8_bride 107 = .ok (.iconst 1, 1) := by decide +kernel
theorem dX8_bride_108 : decode cX8_bride 108 = .ok (.iadd, 1) := by decide +kernel
theorem dX8_bride_109 : decode cX8_bride 109 = .ok (.putfield 81, 3) := by decide +kernel
theorem dX8_bride_112 : decode cX8_bride 112 = .ok (.aload_n 0, 1) := by decide +kernel
theorem dX8_bride_113 : decode cX8_bride 113 = .ok (.getfield 81, 3) := by decide +kernel
theorem dX8_bride_116 : decode cX8_bride 116 = .ok (.iconst 1, 1) := by decide +kernel
theorem dX8_bride_117 : decode cX8_bride 117 = .ok (.isub, 1) := by decide +kernel
theorem dX8_bride_118 : decode cX8_bride 118 = .ok (.ireturn, 1) := by decide +kernel
theorem dX8_make_0 : decode cX8_make 0 = .ok (.aload_n 0, 1) := by decide +kernel
theorem dX8_make_1 : decode cX8_make 1 = .ok (.iload_n 1, 1) := by decide +kernel
theorem dX8_make_2 : decode cX8_make 2 = .ok (.invokevirtual 104, 3) := by decide +kernel
theorem dX8_make_5 : decode cX8_make 5 = .ok (.ifCond .eq 23, 3) := by decide +kernel
theorem dX8_make_8 : decode cX8_make 8 = .ok (.iload_n 2, 1) := by decide +kernel
theorem dX8_make_9 : decode cX8_make 9 = .ok (.i2l, 1) := by decide +kernel
theorem dX8_make_10 : decode cX8_make 10 = .ok (.lconst 0, 1) := by decide +kernel
theorem dX8_make_11 : decode cX8_make 11 = .ok (.ldc2_w 108, 3) := by decide +kernel
theorem dX8_make_14 : decode cX8_make 14 = .ok (.invokestatic 85, 3) := by decide +kernel
theorem dX8_make_17 : decode cX8_make 17 = .ok (.ifCond .eq 11, 3) := by decide +kernel
theorem dX8_make_20 : decode cX8_make 20 = .ok (.iload_n 2, 1) := by decide +kernel
theorem dX8_make_21 : decode cX8_make 21 = .ok (.iload_n 3, 1) := by decide +kernel
theorem dX8_make_22 : decode cX8_make 22 = .ok (.invokestatic 100, 3) := by decide +kernel
theorem dX8_make_25 : decode cX8_make 25 = .ok (.ifCond .ne 5, 3) := by decide +kernel
theorem dX8_make_28 : decode cX8_make 28 = .ok (.iconst (-1), 1) := by decide +kernel
theorem dX8_make_29 : decode cX8_make 29 = .ok (.ireturn, 1) := by decide +kernel
theorem dX8_make_30 : decode cX8_make 30 = .ok (.aload_n 0, 1) := by decide +kernel
theorem dX8_make_31 : decode cX8_make 31 = .ok (.getfield 7, 3) := by decide +kernel
theorem dX8_make_34 : decode cX8_make 34 = .ok (.iconst 4, 1) := by decide +kernel
theorem dX8_make_35 : decode cX8_make 35 = .ok (.iload_n 1, 1) := by decide +kernel
theorem dX8_make_36 : decode cX8_make 36 = .ok (.imul, 1) := by decide +kernel
theorem dX8_make_37 : decode cX8_make 37 = .ok (.iload_n 2, 1) := by decide +kernel
theorem dX8_make_38 : decode cX8_make 38 = .ok (.iadd, 1) := by decide +kernel
theorem dX8_make_39 : decode cX8_make 39 = .ok (.iaload, 1) := by decide +kernel
theorem dX8_make_40 : decode cX8_make 40 = .ok (.istore 4, 2) := by decide +kernel
theorem dX8_make_42 : decode cX8_make 42 = .ok (.aload_n 0, 1) := by decide +kernel
theorem dX8_make_43 : decode cX8_make 43 = .ok (.getfield 7, 3) := by decide +kernel
theorem dX8_make_46 : decode cX8_make 46 = .ok (.iconst 4, 1) := by decide +kernel
theorem dX8_make_47 : decode cX8_make 47 = .ok (.iload_n 1, 1) := by decide +kernel
theorem dX8_make_48 : decode cX8_make 48 = .ok (.imul, 1) := by decide +kernel
theorem dX8_make_49 : decode cX8_make 49 = .ok (.iload_n 2, 1) := by decide +kernel
theorem dX8_make_50 : decode cX8_make 50 = .ok (.iadd, 1) := by decide +kernel
theorem dX8_make_51 : decode cX8_make 51 = .ok (.iload_n 3, 1) := by decide +kernel
theorem dX8_make_52 : decode cX8_make 52 = .ok (.iastore, 1) := by decide +kernel
theorem dX8_make_53 : decode cX8_make 53 = .ok (.iload 4, 2) := by decide +kernel
theorem dX8_make_55 : decode cX8_make 55 = .ok (.ireturn, 1) := by decide +kernel
theorem dX8_addShoe_0 : decode cX8_addShoe 0 = .ok (.aload_n 0, 1) := by decide +kernel
theorem dX8_addShoe_1 : decode cX8_addShoe 1 = .ok (.getfield 13, 3) := by decide +kernel
theorem dX8_addShoe_4 : decode cX8_addShoe 4 = .ok (.iconst 4, 1) := by decide +kernel
theorem dX8_addShoe_5 : decode cX8_addShoe 5 = .ok (.aload_n 0, 1) := by decide +kernel
theorem dX8_addShoe_6 : decode cX8_addShoe 6 = .ok (.getfield 89, 3) := by decide +kernel
theorem dX8_addShoe_9 : decode cX8_addShoe 9 = .ok (.imul, 1) := by decide +kernel
theorem dX8_addShoe_10 : decode cX8_addShoe 10 = .ok (.iload_n 1, 1) := by decide +kernel
theorem dX8_addShoe_11 : decode cX8_addShoe 11 = .ok (.iastore, 1) := by decide +kernel
theorem dX8_addShoe_12 : decode cX8_addShoe 12 = .ok (.aload_n 0, 1) := by decide +kernel
theorem dX8_addShoe_13 : decode cX8_addShoe 13 = .ok (.getfield 13, 3) := by decide +kernel
theorem dX8_addShoe_16 : decode cX8_addShoe 16 = .ok (.iconst 4, 1) := by decide +kernel
theorem dX8_addShoe_17 : decode cX8_addShoe 17 = .ok (.aload_n 0, 1) := by decide +kernel
theorem dX8_addShoe_18 : decode cX8_addShoe 18 = .ok (.getfield 89, 3) := by decide +kernel
theorem dX8_addShoe_21 : decode cX8_addShoe 21 = .ok (.imul, 1) := by decide +kernel
theorem dX8_addShoe_22 : decode cX8_addShoe 22 = .ok (.iconst 1, 1) := by decide +kernel
theorem dX8_addShoe_23 : decode cX8_addShoe 23 = .ok (.iadd, 1) := by decide +kernel
theorem dX8_addShoe_24 : decode cX8_addShoe 24 = .ok (.iload_n 2, 1) := by decide +kernel
theorem dX8_addShoe_25 : decode cX8_addShoe 25 = .ok (.iastore, 1) := by decide +kernel
theorem dX8_addShoe_26 : decode cX8_addShoe 26 = .ok (.aload_n 0, 1) := by decide +kernel
theorem dX8_addShoe_27 : decode cX8_addShoe 27 = .ok (.getfield 13, 3) := by decide +kernel
theorem dX8_addShoe_30 : decode cX8_addShoe 30 = .ok (.iconst 4, 1) := by decide +kernel
theorem dX8_addShoe_31 : decode cX8_addShoe 31 = .ok (.aload_n 0, 1) := by decide +kernel
theorem dX8_addShoe_32 : decode cX8_addShoe 32 = .ok (.getfield 89, 3) := by decide +kernel
theorem dX8_addShoe_35 : decode cX8_addShoe 35 = .ok (.imul, 1) := by decide +kernel
theorem dX8_addShoe_36 : decode cX8_addShoe 36 = .ok (.iconst 2, 1) := by decide +kernel
theorem dX8_addShoe_37 : decode cX8_addShoe 37 = .ok (.iadd, 1) := by decide +kernel
theorem dX8_addShoe_38 : decode cX8_addShoe 38 = .ok (.iload_n 3, 1) := by decide +kernel
theorem dX8_addShoe_39 : decode cX8_addShoe 39 = .ok (.iastore, 1) := by decide +kernel
theorem dX8_addShoe_40 : decode cX8_addShoe 40 = .ok (.aload_n 0, 1) := by decide +kernel
theorem dX8_addShoe_41 : decode cX8_addShoe 41 = .ok (.getfield 13, 3) := by decide +kernel
theorem dX8_addShoe_44 : decode cX8_addShoe 44 = .ok (.iconst 4, 1) := by decide +kernel
theorem dX8_addShoe_45 : decode cX8_addShoe 45 = .ok (.aload_n 0, 1) := by decide +kernel
theorem dX8_addShoe_46 : decode cX8_addShoe 46 = .ok (.getfield 89, 3) := by decide +kernel
theorem dX8_addShoe_49 : decode cX8_addShoe 49 = .ok (.imul, 1) := by decide +kernel
theorem dX8_addShoe_50 : decode cX8_addShoe 50 = .ok (.iconst 3, 1) := by decide +kernel
theorem dX8_addShoe_51 : decode cX8_addShoe 51 = .ok (.iadd, 1) := by decide +kernel
theorem dX8_addShoe_52 : decode cX8_addShoe 52 = .ok (.iconst 0, 1) := by decide +kernel
theorem dX8_addShoe_53 : decode cX8_addShoe 53 = .ok (.iastore, 1) := by decide +kernel
theorem dX8_addShoe_54 : decode cX8_addShoe 54 = .ok (.aload_n 0, 1) := by decide +kernel
theorem dX8_addShoe_55 : decode cX8_addShoe 55 = .ok (.dup, 1) := by decide +kernel
theorem dX8_addShoe_56 : decode cX8_addShoe 56 = .ok (.getfield 89, 3) := by decide +kernel
theorem dX8_addShoe_59 : decode cX8_addShoe 59 = .ok (.iconst 1, 1) := by decide +kernel
theorem dX8_addShoe_60 : decode cX8_addShoe 60 = .ok (.iadd, 1) := by decide +kernel
theorem dX8_addShoe_61 : decode cX8_addShoe 61 = .ok (.putfield 89, 3) := by decide +kernel
theorem dX8_addShoe_64 : decode cX8_addShoe 64 = .ok (.return_, 1) := by decide +kernel
theorem dX8_shoe_0 : decode cX8_shoe 0 = .ok (.iload_n 1, 1) := by decide +kernel
theorem dX8_shoe_1 : decode cX8_shoe 1 = .ok (.i2l, 1) := by decide +kernel
theorem dX8_shoe_2 : decode cX8_shoe 2 = .ok (.lconst 0, 1) := by decide +kernel
theorem dX8_shoe_3 : decode cX8_shoe 3 = .ok (.lconst 1, 1) := by decide +kernel
theorem dX8_shoe_4 : decode cX8_shoe 4 = .ok (.invokestatic 85, 3) := by decide +kernel
theorem dX8_shoe_7 : decode cX8_shoe 7 = .ok (.ifCond .eq 29, 3) := by decide +kernel
theorem dX8_shoe_10 : decode cX8_shoe 10 = .ok (.iload_n 2, 1) := by decide +kernel
theorem dX8_shoe_11 : decode cX8_shoe 11 = .ok (.i2l, 1) := by decide +kernel
theorem dX8_shoe_12 : decode cX8_shoe 12 = .ok (.ldc2_w 94, 3) := by decide +kernel
theorem dX8_shoe_15 : decode cX8_shoe 15 = .ok (.ldc2_w 110, 3) := by decide +kernel
theorem dX8_shoe_18 : decode cX8_shoe 18 = .ok (.invokestatic 85, 3) := by decide +kernel
theorem dX8_shoe_21 : decode cX8_shoe 21 = .ok (.ifCond .eq 15, 3) := by decide +kernel
theorem dX8_shoe_24 : decode cX8_shoe 24 = .ok (.iload_n 3, 1) := by decide +kernel
theorem dX8_shoe_25 : decode cX8_shoe 25 = .ok (.i2l, 1) := by decide +kernel
theorem dX8_shoe_26 : decode cX8_shoe 26 = .ok (.lconst 0, 1) := by decide +kernel
theorem dX8_shoe_27 : decode cX8_shoe 27 = .ok (.ldc2_w 108, 3) := by decide +kernel
theorem dX8_shoe_30 : decode cX8_shoe 30 = .ok (.invokestatic 85, 3) := by decide +kernel
theorem dX8_shoe_33 : decode cX8_shoe 33 = .ok (.ifCond .ne 5, 3) := by decide +kernel
theorem dX8_shoe_36 : decode cX8_shoe 36 = .ok (.iconst (-1), 1) := by decide +kernel
theorem dX8_shoe_37 : decode cX8_shoe 37 = .ok (.ireturn, 1) := by decide +kernel
theorem dX8_shoe_38 : decode cX8_shoe 38 = .ok (.aload_n 0, 1) := by decide +kernel
theorem dX8_shoe_39 : decode cX8_shoe 39 = .ok (.getfield 89, 3) := by decide +kernel
theorem dX8_shoe_42 : decode cX8_shoe 42 = .ok (.bipush 16, 2) := by decide +kernel
theorem dX8_shoe_44 : decode cX8_shoe 44 = .ok (.if_icmp .ne 6, 3) := by decide +kernel
theorem dX8_shoe_47 : decode cX8_shoe 47 = .ok (.bipush (-3), 2) := by decide +kernel
theorem dX8_shoe_49 : decode cX8_shoe 49 = .ok (.ireturn, 1) := by decide +kernel
theorem dX8_shoe_50 : decode cX8_shoe 50 = .ok (.aload_n 0, 1) := by decide +kernel
theorem dX8_shoe_51 : decode cX8_shoe 51 = .ok (.iload_n 1, 1) := by decide +kernel
theorem dX8_shoe_52 : decode cX8_shoe 52 = .ok (.iload_n 2, 1) := by decide +kernel
theorem dX8_shoe_53 : decode cX8_shoe 53 = .ok (.iload_n 3, 1) := by decide +kernel
theorem dX8_shoe_54 : decode cX8_shoe 54 = .ok (.invokevirtual 112, 3) := by decide +kernel
theorem dX8_shoe_57 : decode cX8_shoe 57 = .ok (.aload_n 0, 1) := by decide +kernel
theorem dX8_shoe_58 : decode cX8_shoe 58 = .ok (.getfield 89, 3) := by decide +kernel
theorem dX8_shoe_61 : decode cX8_shoe 61 = .ok (.iconst 1, 1) := by decide +kernel
theorem dX8_shoe_62 : decode cX8_shoe 62 = .ok (.isub, 1) := by decide +kernel
theorem dX8_shoe_63 : decode cX8_shoe 63 = .ok (.ireturn, 1) := by decide +kernel
theorem dX8_told_0 : decode cX8_told 0 = .ok (.aload_n 0, 1) := by decide +kernel
theorem dX8_told_1 : decode cX8_told 1 = .ok (.iload_n 1, 1) := by decide +kernel
theorem dX8_told_2 : decode cX8_told 2 = .ok (.invokevirtual 116, 3) := by decide +kernel
theorem dX8_told_5 : decode cX8_told 5 = .ok (.ifCond .eq 28, 3) := by decide +kernel
theorem dX8_told_8 : decode cX8_told 8 = .ok (.iload_n 2, 1) := by decide +kernel
theorem dX8_told_9 : decode cX8_told 9 = .ok (.i2l, 1) := by decide +kernel
theorem dX8_told_10 : decode cX8_told 10 = .ok (.lconst 0, 1) := by decide +kernel
theorem dX8_told_11 : decode cX8_told 11 = .ok (.ldc2_w 108, 3) := by decide +kernel
theorem dX8_told_14 : decode cX8_told 14 = .ok (.invokestatic 85, 3) := by decide +kernel
theorem dX8_told_17 : decode cX8_told 17 = .ok (.ifCond .eq 16, 3) := by decide +kernel
theorem dX8_told_20 : decode cX8_told 20 = .ok (.aload_n 0, 1) := by decide +kernel
theorem dX8_told_21 : decode cX8_told 21 = .ok (.getfield 13, 3) := by decide +kernel
theorem dX8_told_24 : decode cX8_told 24 = .ok (.iconst 4, 1) := by decide +kernel
theorem dX8_told_25 : decode cX8_told 25 = .ok (.iload_n 1, 1) := by decide +kernel
theorem dX8_told_26 : decode cX8_told 26 = .ok (.imul, 1) := by decide +kernel
theorem dX8_told_27 : decode cX8_told 27 = .ok (.iload_n 2, 1) := by decide +kernel
theorem dX8_told_28 : decode cX8_told 28 = .ok (.iadd, 1) := by decide +kernel
theorem dX8_told_29 : decode cX8_told 29 = .ok (.iaload, 1) := by decide +kernel
theorem dX8_told_30 : decode cX8_told 30 = .ok (.goto 4, 3) := by decide +kernel
theorem dX8_told_33 : decode cX8_told 33 = .ok (.iconst (-1), 1) := by decide +kernel
theorem dX8_told_34 : decode cX8_told 34 = .ok (.ireturn, 1) := by decide +kernel
theorem dX8_lose_0 : decode cX8_lose 0 = .ok (.aload_n 0, 1) := by decide +kernel
theorem dX8_lose_1 : decode cX8_lose 1 = .ok (.iload_n 1, 1) := by decide +kernel
theorem dX8_lose_2 : decode cX8_lose 2 = .ok (.invokevirtual 116, 3) := by decide +kernel
theorem dX8_lose_5 : decode cX8_lose 5 = .ok (.ifCond .ne 5, 3) := by decide +kernel
theorem dX8_lose_8 : decode cX8_lose 8 = .ok (.iconst (-1), 1) := by decide +kernel
theorem dX8_lose_9 : decode cX8_lose 9 = .ok (.ireturn, 1) := by decide +kernel
theorem dX8_lose_10 : decode cX8_lose 10 = .ok (.aload_n 0, 1) := by decide +kernel
theorem dX8_lose_11 : decode cX8_lose 11 = .ok (.getfield 13, 3) := by decide +kernel
theorem dX8_lose_14 : decode cX8_lose 14 = .ok (.iconst 4, 1) := by decide +kernel
theorem dX8_lose_15 : decode cX8_lose 15 = .ok (.iload_n 1, 1) := by decide +kernel
theorem dX8_lose_16 : decode cX8_lose 16 = .ok (.imul, 1) := by decide +kernel
theorem dX8_lose_17 : decode cX8_lose 17 = .ok (.iconst 3, 1) := by decide +kernel
theorem dX8_lose_18 : decode cX8_lose 18 = .ok (.iadd, 1) := by decide +kernel
theorem dX8_lose_19 : decode cX8_lose 19 = .ok (.iaload, 1) := by decide +kernel
theorem dX8_lose_20 : decode cX8_lose 20 = .ok (.istore_n 3, 1) := by decide +kernel
theorem dX8_lose_21 : decode cX8_lose 21 = .ok (.aload_n 0, 1) := by decide +kernel
theorem dX8_lose_22 : decode cX8_lose 22 = .ok (.getfield 13, 3) := by decide +kernel
theorem dX8_lose_25 : decode cX8_lose 25 = .ok (.iconst 4, 1) := by decide +kernel
theorem dX8_lose_26 : decode cX8_lose 26 = .ok (.iload_n 1, 1) := by decide +kernel
theorem dX8_lose_27 : decode cX8_lose 27 = .ok (.imul, 1) := by decide +kernel
theorem dX8_lose_28 : decode cX8_lose 28 = .ok (.iconst 3, 1) := by decide +kernel
theorem dX8_lose_29 : decode cX8_lose 29 = .ok (.iadd, 1) := by decide +kernel
theorem dX8_lose_30 : decode cX8_lose 30 = .ok (.iload_n 2, 1) := by decide +kernel
theorem dX8_lose_31 : decode cX8_lose 31 = .ok (.ifCond .eq 7, 3) := by decide +kernel
theorem dX8_lose_34 : decode cX8_lose 34 = .ok (.iconst 1, 1) := by decide +kernel
theorem dX8_lose_35 : decode cX8_lose 35 = .ok (.goto 4, 3) := by decide +kernel
theorem dX8_lose_38 : decode cX8_lose 38 = .ok (.iconst 0, 1) := by decide +kernel
theorem dX8_lose_39 : decode cX8_lose 39 = .ok (.iastore, 1) := by decide +kernel
theorem dX8_lose_40 : decode cX8_lose 40 = .ok (.iload_n 3, 1) := by decide +kernel
theorem dX8_lose_41 : decode cX8_lose 41 = .ok (.ireturn, 1) := by decide +kernel
theorem dX8_set_0 : decode cX8_set 0 = .ok (.iload_n 1, 1) := by decide +kernel
theorem dX8_set_1 : decode cX8_set 1 = .ok (.i2l, 1) := by decide +kernel
theorem dX8_set_2 : decode cX8_set 2 = .ok (.lconst 0, 1) := by decide +kernel
theorem dX8_set_3 : decode cX8_set 3 = .ok (.lconst 1, 1) := by decide +kernel
theorem dX8_set_4 : decode cX8_set 4 = .ok (.invokestatic 85, 3) := by decide +kernel
theorem dX8_set_7 : decode cX8_set 7 = .ok (.ifCond .eq 15, 3) := by decide +kernel
theorem dX8_set_10 : decode cX8_set 10 = .ok (.iload_n 2, 1) := by decide +kernel
theorem dX8_set_11 : decode cX8_set 11 = .ok (.i2l, 1) := by decide +kernel
theorem dX8_set_12 : decode cX8_set 12 = .ok (.lconst 0, 1) := by decide +kernel
theorem dX8_set_13 : decode cX8_set 13 = .ok (.ldc2_w 119, 3) := by decide +kernel
theorem dX8_set_16 : decode cX8_set 16 = .ok (.invokestatic 85, 3) := by decide +kernel
theorem dX8_set_19 : decode cX8_set 19 = .ok (.ifCond .ne 5, 3) := by decide +kernel
theorem dX8_set_22 : decode cX8_set 22 = .ok (.iconst (-1), 1) := by decide +kernel
theorem dX8_set_23 : decode cX8_set 23 = .ok (.ireturn, 1) := by decide +kernel
theorem dX8_set_24 : decode cX8_set 24 = .ok (.aload_n 0, 1) := by decide +kernel
theorem dX8_set_25 : decode cX8_set 25 = .ok (.getfield 16, 3) := by decide +kernel
theorem dX8_set_28 : decode cX8_set 28 = .ok (.iload_n 1, 1) := by decide +kernel
theorem dX8_set_29 : decode cX8_set 29 = .ok (.iaload, 1) := by decide +kernel
theorem dX8_set_30 : decode cX8_set 30 = .ok (.istore_n 3, 1) := by decide +kernel
theorem dX8_set_31 : decode cX8_set 31 = .ok (.aload_n 0, 1) := by decide +kernel
theorem dX8_set_32 : decode cX8_set 32 = .ok (.getfield 16, 3) := by decide +kernel
theorem dX8_set_35 : decode cX8_set 35 = .ok (.iload_n 1, 1) := by decide +kernel
theorem dX8_set_36 : decode cX8_set 36 = .ok (.iload_n 2, 1) := by decide +kernel
theorem dX8_set_37 : decode cX8_set 37 = .ok (.iastore, 1) := by decide +kernel
theorem dX8_set_38 : decode cX8_set 38 = .ok (.iload_n 3, 1) := by decide +kernel
theorem dX8_set_39 : decode cX8_set 39 = .ok (.ireturn, 1) := by decide +kernel
theorem dX8_footOf_0 : decode cX8_footOf 0 = .ok (.aload_n 0, 1) := by decide +kernel
theorem dX8_footOf_1 : decode cX8_footOf 1 = .ok (.getfield 7, 3) := by decide +kernel
theorem dX8_footOf_4 : decode cX8_footOf 4 = .ok (.iconst 4, 1) := by decide +kernel
theorem dX8_footOf_5 : decode cX8_footOf 5 = .ok (.iload_n 1, 1) := by decide +kernel
theorem dX8_footOf_6 : decode cX8_footOf 6 = .ok (.imul, 1) := by decide +kernel
theorem dX8_footOf_7 : decode cX8_footOf 7 = .ok (.iload_n 2, 1) := by decide +kernel
theorem dX8_footOf_8 : decode cX8_footOf 8 = .ok (.iadd, 1) := by decide +kernel
theorem dX8_footOf_9 : decode cX8_footOf 9 = .ok (.iaload, 1) := by decide +kernel
theorem dX8_footOf_10 : decode cX8_footOf 10 = .ok (.iload_n 3, 1) := by decide +kernel
theorem dX8_footOf_11 : decode cX8_footOf 11 = .ok (.aload_n 0, 1) := by decide +kernel
theorem dX8_footOf_12 : decode cX8_footOf 12 = .ok (.getfield 7, 3) := by decide +kernel
theorem dX8_footOf_15 : decode cX8_footOf 15 = .ok (.iconst 4, 1) := by decide +kernel
theorem dX8_footOf_16 : decode cX8_footOf 16 = .ok (.iload_n 1, 1) := by decide +kernel
theorem dX8_footOf_17 : decode cX8_footOf 17 = .ok (.imul, 1) := by decide +kernel
theorem dX8_footOf_18 : decode cX8_footOf 18 = .ok (.iconst 2, 1) := by decide +kernel
theorem dX8_footOf_19 : decode cX8_footOf 19 = .ok (.iadd, 1) := by decide +kernel
theorem dX8_footOf_20 : decode cX8_footOf 20 = .ok (.iaload, 1) := by decide +kernel
theorem dX8_footOf_21 : decode cX8_footOf 21 = .ok (.imul, 1) := by decide +kernel
theorem dX8_footOf_22 : decode cX8_footOf 22 = .ok (.iconst 4, 1) := by decide +kernel
theorem dX8_footOf_23 : decode cX8_footOf 23 = .ok (.idiv, 1) := by decide +kernel
theorem dX8_footOf_24 : decode cX8_footOf 24 = .ok (.iadd, 1) := by decide +kernel
theorem dX8_footOf_25 : decode cX8_footOf 25 = .ok (.ireturn, 1) := by decide +kernel
theorem dX8_givesOf_0 : decode cX8_givesOf 0 = .ok (.aload_n 0, 1) := by decide +kernel
theorem dX8_givesOf_1 : decode cX8_givesOf 1 = .ok (.getfield 13, 3) := by decide +kernel
theorem dX8_givesOf_4 : decode cX8_givesOf 4 = .ok (.iconst 4, 1) := by decide +kernel
theorem dX8_givesOf_5 : decode cX8_givesOf 5 = .ok (.iload_n 1, 1) := by decide +kernel
theorem dX8_givesOf_6 : decode cX8_givesOf 6 = .ok (.imul, 1) := by decide +kernel
theorem dX8_givesOf_7 : decode cX8_givesOf 7 = .ok (.iconst 2, 1) := by decide +kernel
theorem dX8_givesOf_8 : decode cX8_givesOf 8 = .ok (.iadd, 1) := by decide +kernel
theorem dX8_givesOf_9 : decode cX8_givesOf 9 = .ok (.iaload, 1) := by decide +kernel
theorem dX8_givesOf_10 : decode cX8_givesOf 10 = .ok (.istore_n 2, 1) := by decide +kernel
theorem dX8_givesOf_11 : decode cX8_givesOf 11 = .ok (.iload_n 2, 1) := by decide +kernel
theorem dX8_givesOf_12 : decode cX8_givesOf 12 = .ok (.iconst 2, 1) := by decide +kernel
theorem dX8_givesOf_13 : decode cX8_givesOf 13 = .ok (.if_icmp .ne 7, 3) := by decide +kernel
theorem dX8_givesOf_16 : decode cX8_givesOf 16 = .ok (.iconst 1, 1) := by decide +kernel
theorem dX8_givesOf_17 : decode cX8_givesOf 17 = .ok (.goto 13, 3) := by decide +kernel
theorem dX8_givesOf_20 : decode cX8_givesOf 20 = .ok (.iload_n 2, 1) := by decide +kernel
theorem dX8_givesOf_21 : decode cX8_givesOf 21 = .ok (.iconst 3, 1) := by decide +kernel
theorem dX8_givesOf_22 : decode cX8_givesOf 22 = .ok (.if_icmp .ne 7, 3) := by decide +kernel
theorem dX8_givesOf_25 : decode cX8_givesOf 25 = .ok (.iconst 2, 1) := by decide +kernel
theorem dX8_givesOf_26 : decode cX8_givesOf 26 = .ok (.goto 4, 3) := by decide +kernel
theorem dX8_givesOf_29 : decode cX8_givesOf 29 = .ok (.iconst 0, 1) := by decide +kernel
theorem dX8_givesOf_30 : decode cX8_givesOf 30 = .ok (.ireturn, 1) := by decide +kernel
theorem dX8_looseOf_0 : decode cX8_looseOf 0 = .ok (.aload_n 0, 1) := by decide +kernel
theorem dX8_looseOf_1 : decode cX8_looseOf 1 = .ok (.getfield 13, 3) := by decide +kernel
theorem dX8_looseOf_4 : decode cX8_looseOf 4 = .ok (.iconst 4, 1) := by decide +kernel
theorem dX8_looseOf_5 : decode cX8_looseOf 5 = .ok (.iload_n 1, 1) := by decide +kernel
theorem dX8_looseOf_6 : decode cX8_looseOf 6 = .ok (.imul, 1) := by decide +kernel
theorem dX8_looseOf_7 : decode cX8_looseOf 7 = .ok (.iconst 2, 1) := by decide +kernel
theorem dX8_looseOf_8 : decode cX8_looseOf 8 = .ok (.iadd, 1) := by decide +kernel
theorem dX8_looseOf_9 : decode cX8_looseOf 9 = .ok (.iaload, 1) := by decide +kernel
theorem dX8_looseOf_10 : decode cX8_looseOf 10 = .ok (.iconst 1, 1) := by decide +kernel
theorem dX8_looseOf_11 : decode cX8_looseOf 11 = .ok (.if_icmp .ne 7, 3) := by decide +kernel
theorem dX8_looseOf_14 : decode cX8_looseOf 14 = .ok (.iconst 0, 1) := by decide +kernel
theorem dX8_looseOf_15 : decode cX8_looseOf 15 = .ok (.goto 9, 3) := by decide +kernel
theorem dX8_looseOf_18 : decode cX8_looseOf 18 = .ok (.aload_n 0, 1) := by decide +kernel
theorem dX8_looseOf_19 : decode cX8_looseOf 19 = .ok (.getfield 16, 3) := by decide +kernel
theorem dX8_looseOf_22 : decode cX8_looseOf 22 = .ok (.iconst 0, 1) := by decide +kernel
theorem dX8_looseOf_23 : decode cX8_looseOf 23 = .ok (.iaload, 1) := by decide +kernel
theorem dX8_looseOf_24 : decode cX8_looseOf 24 = .ok (.ireturn, 1) := by decide +kernel
theorem dX8_outOf_0 : decode cX8_outOf 0 = .ok (.aload_n 0, 1) := by decide +kernel
theorem dX8_outOf_1 : decode cX8_outOf 1 = .ok (.getfield 13, 3) := by decide +kernel
theorem dX8_outOf_4 : decode cX8_outOf 4 = .ok (.iconst 4, 1) := by decide +kernel
theorem dX8_outOf_5 : decode cX8_outOf 5 = .ok (.iload_n 1, 1) := by decide +kernel
theorem dX8_outOf_6 : decode cX8_outOf 6 = .ok (.imul, 1) := by decide +kernel
theorem dX8_outOf_7 : decode cX8_outOf 7 = .ok (.iconst 2, 1) := by decide +kernel
theorem dX8_outOf_8 : decode cX8_outOf 8 = .ok (.iadd, 1) := by decide +kernel
theorem dX8_outOf_9 : decode cX8_outOf 9 = .ok (.iaload, 1) := by decide +kernel
theorem dX8_outOf_10 : decode cX8_outOf 10 = .ok (.istore_n 2, 1) := by decide +kernel
theorem dX8_outOf_11 : decode cX8_outOf 11 = .ok (.iload_n 2, 1) := by decide +kernel
theorem dX8_outOf_12 : decode cX8_outOf 12 = .ok (.iconst 1, 1) := by decide +kernel
theorem dX8_outOf_13 : decode cX8_outOf 13 = .ok (.if_icmp .ne 7, 3) := by decide +kernel
theorem dX8_outOf_16 : decode cX8_outOf 16 = .ok (.iconst 0, 1) := by decide +kernel
theorem dX8_outOf_17 : decode cX8_outOf 17 = .ok (.goto 28, 3) := by decide +kernel
theorem dX8_outOf_20 : decode cX8_outOf 20 = .ok (.iload_n 2, 1) := by decide +kernel
theorem dX8_outOf_21 : decode cX8_outOf 21 = .ok (.iconst 3, 1) := by decide +kernel
theorem dX8_outOf_22 : decode cX8_outOf 22 = .ok (.if_icmp .ne 17, 3) := by decide +kernel
theorem dX8_outOf_25 : decode cX8_outOf 25 = .ok (.aload_n 0, 1) := by decide +kernel
theorem dX8_outOf_26 : decode cX8_outOf 26 = .ok (.getfield 16, 3) := by decide +kernel
theorem dX8_outOf_29 : decode cX8_outOf 29 = .ok (.iconst 1, 1) := by decide +kernel
theorem dX8_outOf_30 : decode cX8_outOf 30 = .ok (.iaload, 1) := by decide +kernel
theorem dX8_outOf_31 : decode cX8_outOf 31 = .ok (.iconst 1, 1) := by decide +kernel
theorem dX8_outOf_32 : decode cX8_outOf 32 = .ok (.if_icmp .le 7, 3) := by decide +kernel
theorem dX8_outOf_35 : decode cX8_outOf 35 = .ok (.iconst 1, 1) := by decide +kernel
theorem dX8_outOf_36 : decode cX8_outOf 36 = .ok (.goto 9, 3) := by decide +kernel
theorem dX8_outOf_39 : decode cX8_outOf 39 = .ok (.aload_n 0, 1) := by decide +kernel
theorem dX8_outOf_40 : decode cX8_outOf 40 = .ok (.getfield 16, 3) := by decide +kernel
theorem dX8_outOf_43 : decode cX8_outOf 43 = .ok (.iconst 1, 1) := by decide +kernel
theorem dX8_outOf_44 : decode cX8_outOf 44 = .ok (.iaload, 1) := by decide +kernel
theorem dX8_outOf_45 : decode cX8_outOf 45 = .ok (.ireturn, 1) := by decide +kernel
theorem dX8_askedOf_0 : decode cX8_askedOf 0 = .ok (.aload_n 0, 1) := by decide +kernel
theorem dX8_askedOf_1 : decode cX8_askedOf 1 = .ok (.iload_n 2, 1) := by decide +kernel
theorem dX8_askedOf_2 : decode cX8_askedOf 2 = .ok (.aload_n 0, 1) := by decide +kernel
theorem dX8_askedOf_3 : decode cX8_askedOf 3 = .ok (.getfield 13, 3) := by decide +kernel
theorem dX8_askedOf_6 : decode cX8_askedOf 6 = .ok (.iconst 4, 1) := by decide +kernel
theorem dX8_askedOf_7 : decode cX8_askedOf 7 = .ok (.iload_n 1, 1) := by decide +kernel
theorem dX8_askedOf_8 : decode cX8_askedOf 8 = .ok (.imul, 1) := by decide +kernel
theorem dX8_askedOf_9 : decode cX8_askedOf 9 = .ok (.iaload, 1) := by decide +kernel
theorem dX8_askedOf_10 : decode cX8_askedOf 10 = .ok (.iload_n 3, 1) := by decide +kernel
theorem dX8_askedOf_11 : decode cX8_askedOf 11 = .ok (.invokevirtual 121, 3) := by decide +kernel
theorem dX8_askedOf_14 : decode cX8_askedOf 14 = .ok (.istore 4, 2) := by decide +kernel
theorem dX8_askedOf_16 : decode cX8_askedOf 16 = .ok (.aload_n 0, 1) := by decide +kernel
theorem dX8_askedOf_17 : decode cX8_askedOf 17 = .ok (.getfield 13, 3) := by decide +kernel
theorem dX8_askedOf_20 : decode cX8_askedOf 20 = .ok (.iconst 4, 1) := by decide +kernel
theorem dX8_askedOf_21 : decode cX8_askedOf 21 = .ok (.iload_n 1, 1) := by decide +kernel
theorem dX8_askedOf_22 : decode cX8_askedOf 22 = .ok (.imul, 1) := by decide +kernel
theorem dX8_askedOf_23 : decode cX8_askedOf 23 = .ok (.iconst 1, 1) := by decide +kernel
theorem dX8_askedOf_24 : decode cX8_askedOf 24 = .ok (.iadd, 1) := by decide +kernel
theorem dX8_askedOf_25 : decode cX8_askedOf 25 = .ok (.iaload, 1) := by decide +kernel
theorem dX8_askedOf_26 : decode cX8_askedOf 26 = .ok (.istore 5, 2) := by decide +kernel
theorem dX8_askedOf_28 : decode cX8_askedOf 28 = .ok (.iconst 0, 1) := by decide +kernel
theorem dX8_askedOf_29 : decode cX8_askedOf 29 = .ok (.istore 6, 2) := by decide +kernel
theorem dX8_askedOf_31 : decode cX8_askedOf 31 = .ok (.iload 6, 2) := by decide +kernel
theorem dX8_askedOf_33 : decode cX8_askedOf 33 = .ok (.aload_n 0, 1) := by decide +kernel
theorem dX8_askedOf_34 : decode cX8_askedOf 34 = .ok (.iload_n 1, 1) := by decide +kernel
theorem dX8_askedOf_35 : decode cX8_askedOf 35 = .ok (.invokevirtual 125, 3) := by decide +kernel
theorem dX8_askedOf_38 : decode cX8_askedOf 38 = .ok (.if_icmp .gt 49, 3) := by decide +kernel
theorem dX8_askedOf_41 : decode cX8_askedOf 41 = .ok (.iload 5, 2) := by decide +kernel
theorem dX8_askedOf_43 : decode cX8_askedOf 43 = .ok (.iload 6, 2) := by decide +kernel
theorem dX8_askedOf_45 : decode cX8_askedOf 45 = .ok (.iadd, 1) := by decide +kernel
theorem dX8_askedOf_46 : decode cX8_askedOf 46 = .ok (.iload 4, 2) := by decide +kernel
theorem dX8_askedOf_48 : decode cX8_askedOf 48 = .ok (.aload_n 0, 1) := by decide +kernel
theorem dX8_askedOf_49 : decode cX8_askedOf 49 = .ok (.iload_n 1, 1) := by decide +kernel
theorem dX8_askedOf_50 : decode cX8_askedOf 50 = .ok (.invokevirtual 129, 3) := by decide +kernel
theorem dX8_askedOf_53 : decode cX8_askedOf 53 = .ok (.isub, 1) := by decide +kernel
theorem dX8_askedOf_54 : decode cX8_askedOf 54 = .ok (.if_icmp .lt 27, 3) := by decide +kernel
theorem dX8_askedOf_57 : decode cX8_askedOf 57 = .ok (.iload 5, 2) := by decide +kernel
theorem dX8_askedOf_59 : decode cX8_askedOf 59 = .ok (.iload 6, 2) := by decide +kernel
theorem dX8_askedOf_61 : decode cX8_askedOf 61 = .ok (.iadd, 1) := by decide +kernel
theorem dX8_askedOf_62 : decode cX8_askedOf 62 = .ok (.iload 4, 2) := by decide +kernel
theorem dX8_askedOf_64 : decode cX8_askedOf 64 = .ok (.aload_n 0, 1) := by decide +kernel
theorem dX8_askedOf_65 : decode cX8_askedOf 65 = .ok (.iload_n 1, 1) := by decide +kernel
theorem dX8_askedOf_66 : decode cX8_askedOf 66 = .ok (.invokevirtual 132, 3) := by decide +kernel
theorem dX8_askedOf_69 : decode cX8_askedOf 69 = .ok (.iadd, 1) := by decide +kernel
theorem dX8_askedOf_70 : decode cX8_askedOf 70 = .ok (.if_icmp .gt 8, 3) := by decide +kernel
theorem dX8_askedOf_73 : decode cX8_askedOf 73 = .ok (.iload 6, 2) := by decide +kernel
theorem dX8_askedOf_75 : decode cX8_askedOf 75 = .ok (.goto 5, 3) := by decide +kernel
theorem dX8_askedOf_78 : decode cX8_askedOf 78 = .ok (.bipush (-4), 2) := by decide +kernel
theorem dX8_askedOf_80 : decode cX8_askedOf 80 = .ok (.ireturn, 1) := by decide +kernel
theorem dX8_askedOf_81 : decode cX8_askedOf 81 = .ok (.iinc 6 1, 3) := by decide +kernel
theorem dX8_askedOf_84 : decode cX8_askedOf 84 = .ok (.goto (-53), 3) := by decide +kernel
theorem dX8_askedOf_87 : decode cX8_askedOf 87 = .ok (.bipush (-4), 2) := by decide +kernel
theorem dX8_askedOf_89 : decode cX8_askedOf 89 = .ok (.ireturn, 1) := by decide +kernel
theorem dX8_foot_0 : decode cX8_foot 0 = .ok (.aload_n 0, 1) := by decide +kernel
theorem dX8_foot_1 : decode cX8_foot 1 = .ok (.iload_n 1, 1) := by decide +kernel
theorem dX8_foot_2 : decode cX8_foot 2 = .ok (.invokevirtual 104, 3) := by decide +kernel
theorem dX8_foot_5 : decode cX8_foot 5 = .ok (.ifCond .eq 30, 3) := by decide +kernel
theorem dX8_foot_8 : decode cX8_foot 8 = .ok (.iload_n 2, 1) := by decide +kernel
theorem dX8_foot_9 : decode cX8_foot 9 = .ok (.i2l, 1) := by decide +kernel
theorem dX8_foot_10 : decode cX8_foot 10 = .ok (.lconst 0, 1) := by decide +kernel
theorem dX8_foot_11 : decode cX8_foot 11 = .ok (.lconst 1, 1) := by decide +kernel
theorem dX8_foot_12 : decode cX8_foot 12 = .ok (.invokestatic 85, 3) := by decide +kernel
theorem dX8_foot_15 : decode cX8_foot 15 = .ok (.ifCond .eq 20, 3) := by decide +kernel
theorem dX8_foot_18 : decode cX8_foot 18 = .ok (.iload_n 3, 1) := by decide +kernel
theorem dX8_foot_19 : decode cX8_foot 19 = .ok (.invokestatic 135, 3) := by decide +kernel
theorem dX8_foot_22 : decode cX8_foot 22 = .ok (.ifCond .eq 13, 3) := by decide +kernel
theorem dX8_foot_25 : decode cX8_foot 25 = .ok (.aload_n 0, 1) := by decide +kernel
theorem dX8_foot_26 : decode cX8_foot 26 = .ok (.iload_n 1, 1) := by decide +kernel
theorem dX8_foot_27 : decode cX8_foot 27 = .ok (.iload_n 2, 1) := by decide +kernel
theorem dX8_foot_28 : decode cX8_foot 28 = .ok (.iload_n 3, 1) := by decide +kernel
theorem dX8_foot_29 : decode cX8_foot 29 = .ok (.invokevirtual 121, 3) := by decide +kernel
theorem dX8_foot_32 : decode cX8_foot 32 = .ok (.goto 4, 3) := by decide +kernel
theorem dX8_foot_35 : decode cX8_foot 35 = .ok (.iconst (-1), 1) := by decide +kernel
theorem dX8_foot_36 : decode cX8_foot 36 = .ok (.ireturn, 1) := by decide +kernel
theorem dX8_asked_0 : decode cX8_asked 0 = .ok (.aload_n 0, 1) := by decide +kernel
theorem dX8_asked_1 : decode cX8_asked 1 = .ok (.iload_n 1, 1) := by decide +kernel
theorem dX8_asked_2 : decode cX8_asked 2 = .ok (.invokevirtual 116, 3) := by decide +kernel
theorem dX8_asked_5 : decode cX8_asked 5 = .ok (.ifCond .eq 28, 3) := by decide +kernel
theorem dX8_asked_8 : decode cX8_asked 8 = .ok (.aload_n 0, 1) := by decide +kernel
theorem dX8_asked_9 : decode cX8_asked 9 = .ok (.iload_n 2, 1) := by decide +kernel
theorem dX8_asked_10 : decode cX8_asked 10 = .ok (.invokevirtual 104, 3) := by decide +kernel
theorem dX8_asked_13 : decode cX8_asked 13 = .ok (.ifCond .eq 20, 3) := by decide +kernel
theorem dX8_asked_16 : decode cX8_asked 16 = .ok (.iload_n 3, 1) := by decide +kernel
theorem dX8_asked_17 : decode cX8_asked 17 = .ok (.invokestatic 135, 3) := by decide +kernel
theorem dX8_asked_20 : decode cX8_asked 20 = .ok (.ifCond .eq 13, 3) := by decide +kernel
theorem dX8_asked_23 : decode cX8_asked 23 = .ok (.aload_n 0, 1) := by decide +kernel
theorem dX8_asked_24 : decode cX8_asked 24 = .ok (.iload_n 1, 1) := by decide +kernel
theorem dX8_asked_25 : decode cX8_asked 25 = .ok (.iload_n 2, 1) := by decide +kernel
theorem dX8_asked_26 : decode cX8_asked 26 = .ok (.iload_n 3, 1) := by decide +kernel
theorem dX8_asked_27 : decode cX8_asked 27 = .ok (.invokevirtual 138, 3) := by decide +kernel
theorem dX8_asked_30 : decode cX8_asked 30 = .ok (.goto 4, 3) := by decide +kernel
theorem dX8_asked_33 : decode cX8_asked 33 = .ok (.iconst (-1), 1) := by decide +kernel
theorem dX8_asked_34 : decode cX8_asked 34 = .ok (.ireturn, 1) := by decide +kernel
theorem dX8_whose_0 : decode cX8_whose 0 = .ok (.aload_n 0, 1) := by decide +kernel
theorem dX8_whose_1 : decode cX8_whose 1 = .ok (.iload_n 1, 1) := by decide +kernel
theorem dX8_whose_2 : decode cX8_whose 2 = .ok (.invokevirtual 116, 3) := by decide +kernel
theorem dX8_whose_5 : decode cX8_whose 5 = .ok (.ifCond .eq 10, 3) := by decide +kernel
theorem dX8_whose_8 : decode cX8_whose 8 = .ok (.iload_n 2, 1) := by decide +kernel
theorem dX8_whose_9 : decode cX8_whose 9 = .ok (.invokestatic 135, 3) := by decide +kernel
theorem dX8_whose_12 : decode cX8_whose 12 = .ok (.ifCond .ne 5, 3) := by decide +kernel
theorem dX8_whose_15 : decode cX8_whose 15 = .ok (.iconst (-1), 1) := by decide +kernel
theorem dX8_whose_16 : decode cX8_whose 16 = .ok (.ireturn, 1) := by decide +kernel
theorem dX8_whose_17 : decode cX8_whose 17 = .ok (.iconst 0, 1) := by decide +kernel
theorem dX8_whose_18 : decode cX8_whose 18 = .ok (.istore_n 3, 1) := by decide +kernel
theorem dX8_whose_19 : decode cX8_whose 19 = .ok (.iconst 0, 1) := by decide +kernel
theorem dX8_whose_20 : decode cX8_whose 20 = .ok (.istore 4, 2) := by decide +kernel
theorem dX8_whose_22 : decode cX8_whose 22 = .ok (.iload 4, 2) := by decide +kernel
theorem dX8_whose_24 : decode cX8_whose 24 = .ok (.aload_n 0, 1) := by decide +kernel
theorem dX8_whose_25 : decode cX8_whose 25 = .ok (.getfield 81, 3) := by decide +kernel
theorem dX8_whose_28 : decode cX8_whose 28 = .ok (.if_icmp .ge 31, 3) := by decide +kernel
theorem dX8_whose_31 : decode cX8_whose 31 = .ok (.iload_n 3, 1) := by decide +kernel
theorem dX8_whose_32 : decode cX8_whose 32 = .ok (.aload_n 0, 1) := by decide +kernel
theorem dX8_whose_33 : decode cX8_whose 33 = .ok (.iload_n 1, 1) := by decide +kernel
theorem dX8_whose_34 : decode cX8_whose 34 = .ok (.iload 4, 2) := by decide +kernel
theorem dX8_whose_36 : decode cX8_whose 36 = .ok (.iload_n 2, 1) := by decide +kernel
theorem dX8_whose_37 : decode cX8_whose 37 = .ok (.invokevirtual 138, 3) := by decide +kernel
theorem dX8_whose_40 : decode cX8_whose 40 = .ok (.ifCond .lt 10, 3) := by decide +kernel
theorem dX8_whose_43 : decode cX8_whose 43 = .ok (.iconst 1, 1) := by decide +kernel
theorem dX8_whose_44 : decode cX8_whose 44 = .ok (.iload 4, 2) := by decide +kernel
theorem dX8_whose_46 : decode cX8_whose 46 = .ok (.ishl, 1) := by decide +kernel
theorem dX8_whose_47 : decode cX8_whose 47 = .ok (.goto 4, 3) := by decide +kernel
theorem dX8_whose_50 : decode cX8_whose 50 = .ok (.iconst 0, 1) := by decide +kernel
theorem dX8_whose_51 : decode cX8_whose 51 = .ok (.ior, 1) := by decide +kernel
theorem dX8_whose_52 : decode cX8_whose 52 = .ok (.istore_n 3, 1) := by decide +kernel
theorem dX8_whose_53 : decode cX8_whose 53 = .ok (.iinc 4 1, 3) := by decide +kernel
theorem dX8_whose_56 : decode cX8_whose 56 = .ok (.goto (-34), 3) := by decide +kernel
theorem dX8_whose_59 : decode cX8_whose 59 = .ok (.iload_n 3, 1) := by decide +kernel
theorem dX8_whose_60 : decode cX8_whose 60 = .ok (.ireturn, 1) := by decide +kernel
theorem dX8_count_0 : decode cX8_count 0 = .ok (.iconst 0, 1) := by decide +kernel
theorem dX8_count_1 : decode cX8_count 1 = .ok (.istore_n 2, 1) := by decide +kernel
theorem dX8_count_2 : decode cX8_count 2 = .ok (.iconst 0, 1) := by decide +kernel
theorem dX8_count_3 : decode cX8_count 3 = .ok (.istore_n 3, 1) := by decide +kernel
theorem dX8_count_4 : decode cX8_count 4 = .ok (.iconst 0, 1) := by decide +kernel
theorem dX8_count_5 : decode cX8_count 5 = .ok (.istore 4, 2) := by decide +kernel
theorem dX8_count_7 : decode cX8_count 7 = .ok (.iconst 0, 1) := by decide +kernel
theorem dX8_count_8 : decode cX8_count 8 = .ok (.istore 5, 2) := by decide +kernel
theorem dX8_count_10 : decode cX8_count 10 = .ok (.iload 5, 2) := by decide +kernel
theorem dX8_count_12 : decode cX8_count 12 = .ok (.aload_n 0, 1) := by decide +kernel
theorem dX8_count_13 : decode cX8_count 13 = .ok (.getfield 89, 3) := by decide +kernel
theorem dX8_count_16 : decode cX8_count 16 = .ok (.if_icmp .ge 90, 3) := by decide +kernel
theorem dX8_count_19 : decode cX8_count 19 = .ok (.iload 4, 2) := by decide +kernel
theorem dX8_count_21 : decode cX8_count 21 = .ok (.aload_n 0, 1) := by decide +kernel
theorem dX8_count_22 : decode cX8_count 22 = .ok (.getfield 13, 3) := by decide +kernel
theorem dX8_count_25 : decode cX8_count 25 = .ok (.iconst 4, 1) := by decide +kernel
theorem dX8_count_26 : decode cX8_count 26 = .ok (.iload 5, 2) := by decide +kernel
theorem dX8_count_28 : decode cX8_count 28 = .ok (.imul, 1) := by decide +kernel
theorem dX8_count_29 : decode cX8_count 29 = .ok (.iconst 3, 1) := by decide +kernel
theorem dX8_count_30 : decode cX8_count 30 = .ok (.iadd, 1) := by decide +kernel
theorem dX8_count_31 : decode cX8_count 31 = .ok (.iaload, 1) := by decide +kernel
theorem dX8_count_32 : decode cX8_count 32 = .ok (.iadd, 1) := by decide +kernel
theorem dX8_count_33 : decode cX8_count 33 = .ok (.istore 4, 2) := by decide +kernel
theorem dX8_count_35 : decode cX8_count 35 = .ok (.iload_n 2, 1) := by decide +kernel
theorem dX8_count_36 : decode cX8_count 36 = .ok (.aload_n 0, 1) := by decide +kernel
theorem dX8_count_37 : decode cX8_count 37 = .ok (.getfield 13, 3) := by decide +kernel
theorem dX8_count_40 : decode cX8_count 40 = .ok (.iconst 4, 1) := by decide +kernel
theorem dX8_count_41 : decode cX8_count 41 = .ok (.iload 5, 2) := by decide +kernel
theorem dX8_count_43 : decode cX8_count 43 = .ok (.imul, 1) := by decide +kernel
theorem dX8_count_44 : decode cX8_count 44 = .ok (.iaload, 1) := by decide +kernel
theorem dX8_count_45 : decode cX8_count 45 = .ok (.ifCond .ne 19, 3) := by decide +kernel
theorem dX8_count_48 : decode cX8_count 48 = .ok (.iconst 1, 1) := by decide +kernel
theorem dX8_count_49 : decode cX8_count 49 = .ok (.aload_n 0, 1) := by decide +kernel
theorem dX8_count_50 : decode cX8_count 50 = .ok (.getfield 13, 3) := by decide +kernel
theorem dX8_count_53 : decode cX8_count 53 = .ok (.iconst 4, 1) := by decide +kernel
theorem dX8_count_54 : decode cX8_count 54 = .ok (.iload 5, 2) := by decide +kernel
theorem dX8_count_56 : decode cX8_count 56 = .ok (.imul, 1) := by decide +kernel
theorem dX8_count_57 : decode cX8_count 57 = .ok (.iconst 3, 1) := by decide +kernel
theorem dX8_count_58 : decode cX8_count 58 = .ok (.iadd, 1) := by decide +kernel
theorem dX8_count_59 : decode cX8_count 59 = .ok (.iaload, 1) := by decide +kernel
theorem dX8_count_60 : decode cX8_count 60 = .ok (.isub, 1) := by decide +kernel
theorem dX8_count_61 : decode cX8_count 61 = .ok (.goto 4, 3) := by decide +kernel
theorem dX8_count_64 : decode cX8_count 64 = .ok (.iconst 0, 1) := by decide +kernel
theorem dX8_count_65 : decode cX8_count 65 = .ok (.iadd, 1) := by decide +kernel
theorem dX8_count_66 : decode cX8_count 66 = .ok (.istore_n 2, 1) := by decide +kernel
theorem dX8_count_67 : decode cX8_count 67 = .ok (.iload_n 3, 1) := by decide +kernel
theorem dX8_count_68 : decode cX8_count 68 = .ok (.aload_n 0, 1) := by decide +kernel
theorem dX8_count_69 : decode cX8_count 69 = .ok (.getfield 13, 3) := by decide +kernel
theorem dX8_count_72 : decode cX8_count 72 = .ok (.iconst 4, 1) := by decide +kernel
theorem dX8_count_73 : decode cX8_count 73 = .ok (.iload 5, 2) := by decide +kernel
theorem dX8_count_75 : decode cX8_count 75 = .ok (.imul, 1) := by decide +kernel
theorem dX8_count_76 : decode cX8_count 76 = .ok (.iaload, 1) := by decide +kernel
theorem dX8_count_77 : decode cX8_count 77 = .ok (.iconst 1, 1) := by decide +kernel
theorem dX8_count_78 : decode cX8_count 78 = .ok (.if_icmp .ne 19, 3) := by decide +kernel
theorem dX8_count_81 : decode cX8_count 81 = .ok (.iconst 1, 1) := by decide +kernel
theorem dX8_count_82 : decode cX8_count 82 = .ok (.aload_n 0, 1) := by decide +kernel
theorem dX8_count_83 : decode cX8_count 83 = .ok (.getfield 13, 3) := by decide +kernel
theorem dX8_count_86 : decode cX8_count 86 = .ok (.iconst 4, 1) := by decide +kernel
theorem dX8_count_87 : decode cX8_count 87 = .ok (.iload 5, 2) := by decide +kernel
theorem dX8_count_89 : decode cX8_count 89 = .ok (.imul, 1) := by decide +kernel
theorem dX8_count_90 : decode cX8_count 90 = .ok (.iconst 3, 1) := by decide +kernel
theorem dX8_count_91 : decode cX8_count 91 = .ok (.iadd, 1) := by decide +kernel
theorem dX8_count_92 : decode cX8_count 92 = .ok (.iaload, 1) := by decide +kernel
theorem dX8_count_93 : decode cX8_count 93 = .ok (.isub, 1) := by decide +kernel
theorem dX8_count_94 : decode cX8_count 94 = .ok (.goto 4, 3) := by decide +kernel
theorem dX8_count_97 : decode cX8_count 97 = .ok (.iconst 0, 1) := by decide +kernel
