theorem dX0_init_0 : decode cX0_init 0 = .ok (.aload_n 0, 1) := by decide +kernel
theorem dX0_init_1 : decode cX0_init 1 = .ok (.invokespecial 3, 3) := by decide +kernel
theorem dX0_init_4 : decode cX0_init 4 = .ok (.aload_n 0, 1) := by decide +kernel
theorem dX0_init_5 : decode cX0_init 5 = .ok (.bipush 6, 2) := by decide +kernel
theorem dX0_init_7 : decode cX0_init 7 = .ok (.newarray .int, 2) := by decide +kernel
theorem dX0_init_9 : decode cX0_init 9 = .ok (.putfield 9, 3) := by decide +kernel
theorem dX0_init_12 : decode cX0_init 12 = .ok (.aload_n 0, 1) := by decide +kernel
theorem dX0_init_13 : decode cX0_init 13 = .ok (.bipush 64, 2) := by decide +kernel
theorem dX0_init_15 : decode cX0_init 15 = .ok (.newarray .int, 2) := by decide +kernel
theorem dX0_init_17 : decode cX0_init 17 = .ok (.putfield 15, 3) := by decide +kernel
theorem dX0_init_20 : decode cX0_init 20 = .ok (.aload_n 0, 1) := by decide +kernel
theorem dX0_init_21 : decode cX0_init 21 = .ok (.bipush 6, 2) := by decide +kernel
theorem dX0_init_23 : decode cX0_init 23 = .ok (.newarray .int, 2) := by decide +kernel
theorem dX0_init_25 : decode cX0_init 25 = .ok (.putfield 18, 3) := by decide +kernel
theorem dX0_init_28 : decode cX0_init 28 = .ok (.return_, 1) := by decide +kernel
theorem dX0_find_0 : decode cX0_find 0 = .ok (.iconst 0, 1) := by decide +kernel
theorem dX0_find_1 : decode cX0_find 1 = .ok (.istore 6, 2) := by decide +kernel
theorem dX0_find_3 : decode cX0_find 3 = .ok (.iload 6, 2) := by decide +kernel
theorem dX0_find_5 : decode cX0_find 5 = .ok (.iload 5, 2) := by decide +kernel
theorem dX0_find_7 : decode cX0_find 7 = .ok (.if_icmp .ge 76, 3) := by decide +kernel
theorem dX0_find_10 : decode cX0_find 10 = .ok (.aload_n 0, 1) := by decide +kernel
theorem dX0_find_11 : decode cX0_find 11 = .ok (.getfield 9, 3) := by decide +kernel
theorem dX0_find_14 : decode cX0_find 14 = .ok (.iload 6, 2) := by decide +kernel
theorem dX0_find_16 : decode cX0_find 16 = .ok (.iconst 0, 1) := by decide +kernel
theorem dX0_find_17 : decode cX0_find 17 = .ok (.iastore, 1) := by decide +kernel
theorem dX0_find_18 : decode cX0_find 18 = .ok (.iconst 0, 1) := by decide +kernel
theorem dX0_find_19 : decode cX0_find 19 = .ok (.istore 7, 2) := by decide +kernel
theorem dX0_find_21 : decode cX0_find 21 = .ok (.iload 7, 2) := by decide +kernel
theorem dX0_find_23 : decode cX0_find 23 = .ok (.iload 5, 2) := by decide +kernel
theorem dX0_find_25 : decode cX0_find 25 = .ok (.if_icmp .ge 52, 3) := by decide +kernel
theorem dX0_find_28 : decode cX0_find 28 = .ok (.aload_n 1, 1) := by decide +kernel
theorem dX0_find_29 : decode cX0_find 29 = .ok (.iload 6, 2) := by decide +kernel
theorem dX0_find_31 : decode cX0_find 31 = .ok (.aload_n 2, 1) := by decide +kernel
theorem dX0_find_32 : decode cX0_find 32 = .ok (.iload 7, 2) := by decide +kernel
theorem dX0_find_34 : decode cX0_find 34 = .ok (.iaload, 1) := by decide +kernel
theorem dX0_find_35 : decode cX0_find 35 = .ok (.aload_n 1, 1) := by decide +kernel
theorem dX0_find_36 : decode cX0_find 36 = .ok (.getfield 21, 3) := by decide +kernel
theorem dX0_find_39 : decode cX0_find 39 = .ok (.iload 6, 2) := by decide +kernel
theorem dX0_find_41 : decode cX0_find 41 = .ok (.aaload, 1) := by decide +kernel
theorem dX0_find_42 : decode cX0_find 42 = .ok (.iconst 3, 1) := by decide +kernel
theorem dX0_find_43 : decode cX0_find 43 = .ok (.iaload, 1) := by decide +kernel
theorem dX0_find_44 : decode cX0_find 44 = .ok (.invokevirtual 27, 3) := by decide +kernel
theorem dX0_find_47 : decode cX0_find 47 = .ok (.aload_n 3, 1) := by decide +kernel
theorem dX0_find_48 : decode cX0_find 48 = .ok (.iload 4, 2) := by decide +kernel
theorem dX0_find_50 : decode cX0_find 50 = .ok (.iload 6, 2) := by decide +kernel
theorem dX0_find_52 : decode cX0_find 52 = .ok (.iadd, 1) := by decide +kernel
theorem dX0_find_53 : decode cX0_find 53 = .ok (.iaload, 1) := by decide +kernel
theorem dX0_find_54 : decode cX0_find 54 = .ok (.if_icmp .ne 17, 3) := by decide +kernel
theorem dX0_find_57 : decode cX0_find 57 = .ok (.aload_n 0, 1) := by decide +kernel
theorem dX0_find_58 : decode cX0_find 58 = .ok (.getfield 9, 3) := by decide +kernel
theorem dX0_find_61 : decode cX0_find 61 = .ok (.iload 6, 2) := by decide +kernel
theorem dX0_find_63 : decode cX0_find 63 = .ok (.dup2, 1) := by decide +kernel
theorem dX0_find_64 : decode cX0_find 64 = .ok (.iaload, 1) := by decide +kernel
theorem dX0_find_65 : decode cX0_find 65 = .ok (.iconst 1, 1) := by decide +kernel
theorem dX0_find_66 : decode cX0_find 66 = .ok (.iload 7, 2) := by decide +kernel
theorem dX0_find_68 : decode cX0_find 68 = .ok (.ishl, 1) := by decide +kernel
theorem dX0_find_69 : decode cX0_find 69 = .ok (.ior, 1) := by decide +kernel
theorem dX0_find_70 : decode cX0_find 70 = .ok (.iastore, 1) := by decide +kernel
theorem dX0_find_71 : decode cX0_find 71 = .ok (.iinc 7 1, 3) := by decide +kernel
theorem dX0_find_74 : decode cX0_find 74 = .ok (.goto (-53), 3) := by decide +kernel
theorem dX0_find_77 : decode cX0_find 77 = .ok (.iinc 6 1, 3) := by decide +kernel
theorem dX0_find_80 : decode cX0_find 80 = .ok (.goto (-77), 3) := by decide +kernel
theorem dX0_find_83 : decode cX0_find 83 = .ok (.aload_n 0, 1) := by decide +kernel
theorem dX0_find_84 : decode cX0_find 84 = .ok (.iload 5, 2) := by decide +kernel
theorem dX0_find_86 : decode cX0_find 86 = .ok (.invokevirtual 31, 3) := by decide +kernel
theorem dX0_find_89 : decode cX0_find 89 = .ok (.aload_n 0, 1) := by decide +kernel
theorem dX0_find_90 : decode cX0_find 90 = .ok (.iload 5, 2) := by decide +kernel
theorem dX0_find_92 : decode cX0_find 92 = .ok (.invokevirtual 35, 3) := by decide +kernel
theorem dX0_find_95 : decode cX0_find 95 = .ok (.return_, 1) := by decide +kernel
theorem dX0_howMany_0 : decode cX0_howMany 0 = .ok (.aload_n 0, 1) := by decide +kernel
theorem dX0_howMany_1 : decode cX0_howMany 1 = .ok (.getfield 15, 3) := by decide +kernel
theorem dX0_howMany_4 : decode cX0_howMany 4 = .ok (.iconst 0, 1) := by decide +kernel
theorem dX0_howMany_5 : decode cX0_howMany 5 = .ok (.iaload, 1) := by decide +kernel
theorem dX0_howMany_6 : decode cX0_howMany 6 = .ok (.ireturn, 1) := by decide +kernel
theorem dX0_countRows_0 : decode cX0_countRows 0 = .ok (.iconst 1, 1) := by decide +kernel
theorem dX0_countRows_1 : decode cX0_countRows 1 = .ok (.iload_n 1, 1) := by decide +kernel
theorem dX0_countRows_2 : decode cX0_countRows 2 = .ok (.ishl, 1) := by decide +kernel
theorem dX0_countRows_3 : decode cX0_countRows 3 = .ok (.iconst 1, 1) := by decide +kernel
theorem dX0_countRows_4 : decode cX0_countRows 4 = .ok (.isub, 1) := by decide +kernel
theorem dX0_countRows_5 : decode cX0_countRows 5 = .ok (.istore_n 2, 1) := by decide +kernel
theorem dX0_countRows_6 : decode cX0_countRows 6 = .ok (.aload_n 0, 1) := by decide +kernel
theorem dX0_countRows_7 : decode cX0_countRows 7 = .ok (.getfield 15, 3) := by decide +kernel
theorem dX0_countRows_10 : decode cX0_countRows 10 = .ok (.iload_n 2, 1) := by decide +kernel
theorem dX0_countRows_11 : decode cX0_countRows 11 = .ok (.iconst 1, 1) := by decide +kernel
theorem dX0_countRows_12 : decode cX0_countRows 12 = .ok (.iastore, 1) := by decide +kernel
theorem dX0_countRows_13 : decode cX0_countRows 13 = .ok (.iload_n 2, 1) := by decide +kernel
theorem dX0_countRows_14 : decode cX0_countRows 14 = .ok (.iconst 1, 1) := by decide +kernel
theorem dX0_countRows_15 : decode cX0_countRows 15 = .ok (.isub, 1) := by decide +kernel
theorem dX0_countRows_16 : decode cX0_countRows 16 = .ok (.istore_n 3, 1) := by decide +kernel
theorem dX0_countRows_17 : decode cX0_countRows 17 = .ok (.iload_n 3, 1) := by decide +kernel
theorem dX0_countRows_18 : decode cX0_countRows 18 = .ok (.ifCond .lt 77, 3) := by decide +kernel
theorem dX0_countRows_21 : decode cX0_countRows 21 = .ok (.aload_n 0, 1) := by decide +kernel
theorem dX0_countRows_22 : decode cX0_countRows 22 = .ok (.getfield 9, 3) := by decide +kernel
theorem dX0_countRows_25 : decode cX0_countRows 25 = .ok (.iload_n 3, 1) := by decide +kernel
theorem dX0_countRows_26 : decode cX0_countRows 26 = .ok (.invokestatic 38, 3) := by decide +kernel
theorem dX0_countRows_29 : decode cX0_countRows 29 = .ok (.iaload, 1) := by decide +kernel
theorem dX0_countRows_30 : decode cX0_countRows 30 = .ok (.iload_n 3, 1) := by decide +kernel
theorem dX0_countRows_31 : decode cX0_countRows 31 = .ok (.iconst (-1), 1) := by decide +kernel
theorem dX0_countRows_32 : decode cX0_countRows 32 = .ok (.ixor, 1) := by decide +kernel
theorem dX0_countRows_33 : decode cX0_countRows 33 = .ok (.iand, 1) := by decide +kernel
theorem dX0_countRows_34 : decode cX0_countRows 34 = .ok (.istore 4, 2) := by decide +kernel
theorem dX0_countRows_36 : decode cX0_countRows 36 = .ok (.aload_n 0, 1) := by decide +kernel
theorem dX0_countRows_37 : decode cX0_countRows 37 = .ok (.getfield 15, 3) := by decide +kernel
theorem dX0_countRows_40 : decode cX0_countRows 40 = .ok (.iload_n 3, 1) := by decide +kernel
theorem dX0_countRows_41 : decode cX0_countRows 41 = .ok (.iconst 0, 1) := by decide +kernel
theorem dX0_countRows_42 : decode cX0_countRows 42 = .ok (.iastore, 1) := by decide +kernel
theorem dX0_countRows_43 : decode cX0_countRows 43 = .ok (.iconst 0, 1) := by decide +kernel
theorem dX0_countRows_44 : decode cX0_countRows 44 = .ok (.istore 5, 2) := by decide +kernel
theorem dX0_countRows_46 : decode cX0_countRows 46 = .ok (.iload 5, 2) := by decide +kernel
theorem dX0_countRows_48 : decode cX0_countRows 48 = .ok (.iload_n 1, 1) := by decide +kernel
theorem dX0_countRows_49 : decode cX0_countRows 49 = .ok (.if_icmp .ge 40, 3) := by decide +kernel
theorem dX0_countRows_52 : decode cX0_countRows 52 = .ok (.iload 4, 2) := by decide +kernel
theorem dX0_countRows_54 : decode cX0_countRows 54 = .ok (.iload 5, 2) := by decide +kernel
theorem dX0_countRows_56 : decode cX0_countRows 56 = .ok (.ishr, 1) := by decide +kernel
theorem dX0_countRows_57 : decode cX0_countRows 57 = .ok (.iconst 1, 1) := by decide +kernel
theorem dX0_countRows_58 : decode cX0_countRows 58 = .ok (.iand, 1) := by decide +kernel
theorem dX0_countRows_59 : decode cX0_countRows 59 = .ok (.iconst 1, 1) := by decide +kernel
theorem dX0_countRows_60 : decode cX0_countRows 60 = .ok (.if_icmp .ne 23, 3) := by decide +kernel
theorem dX0_countRows_63 : decode cX0_countRows 63 = .ok (.aload_n 0, 1) := by decide +kernel
theorem dX0_countRows_64 : decode cX0_countRows 64 = .ok (.getfield 15, 3) := by decide +kernel
theorem dX0_countRows_67 : decode cX0_countRows 67 = .ok (.iload_n 3, 1) := by decide +kernel
theorem dX0_countRows_68 : decode cX0_countRows 68 = .ok (.dup2, 1) := by decide +kernel
theorem dX0_countRows_69 : decode cX0_countRows 69 = .ok (.iaload, 1) := by decide +kernel
theorem dX0_countRows_70 : decode cX0_countRows 70 = .ok (.aload_n 0, 1) := by decide +kernel
theorem dX0_countRows_71 : decode cX0_countRows 71 = .ok (.getfield 15, 3) := by decide +kernel
theorem dX0_countRows_74 : decode cX0_countRows 74 = .ok (.iload_n 3, 1) := by decide +kernel
theorem dX0_countRows_75 : decode cX0_countRows 75 = .ok (.iconst 1, 1) := by decide +kernel
theorem dX0_countRows_76 : decode cX0_countRows 76 = .ok (.iload 5, 2) := by decide +kernel
theorem dX0_countRows_78 : decode cX0_countRows 78 = .ok (.ishl, 1) := by decide +kernel
theorem dX0_countRows_79 : decode cX0_countRows 79 = .ok (.ior, 1) := by decide +kernel
theorem dX0_countRows_80 : decode cX0_countRows 80 = .ok (.iaload, 1) := by decide +kernel
theorem dX0_countRows_81 : decode cX0_countRows 81 = .ok (.iadd, 1) := by decide +kernel
theorem dX0_countRows_82 : decode cX0_countRows 82 = .ok (.iastore, 1) := by decide +kernel
theorem dX0_countRows_83 : decode cX0_countRows 83 = .ok (.iinc 5 1, 3) := by decide +kernel
theorem dX0_countRows_86 : decode cX0_countRows 86 = .ok (.goto (-40), 3) := by decide +kernel
theorem dX0_countRows_89 : decode cX0_countRows 89 = .ok (.iinc 3 (-1), 3) := by decide +kernel
theorem dX0_countRows_92 : decode cX0_countRows 92 = .ok (.goto (-75), 3) := by decide +kernel
theorem dX0_countRows_95 : decode cX0_countRows 95 = .ok (.return_, 1) := by decide +kernel
theorem dX0_takeFirst_0 : decode cX0_takeFirst 0 = .ok (.iconst 0, 1) := by decide +kernel
theorem dX0_takeFirst_1 : decode cX0_takeFirst 1 = .ok (.istore_n 2, 1) := by decide +kernel
theorem dX0_takeFirst_2 : decode cX0_takeFirst 2 = .ok (.iconst 0, 1) := by decide +kernel
theorem dX0_takeFirst_3 : decode cX0_takeFirst 3 = .ok (.istore_n 3, 1) := by decide +kernel
theorem dX0_takeFirst_4 : decode cX0_takeFirst 4 = .ok (.iload_n 3, 1) := by decide +kernel
theorem dX0_takeFirst_5 : decode cX0_takeFirst 5 = .ok (.iload_n 1, 1) := by decide +kernel
theorem dX0_takeFirst_6 : decode cX0_takeFirst 6 = .ok (.if_icmp .ge 42, 3) := by decide +kernel
theorem dX0_takeFirst_9 : decode cX0_takeFirst 9 = .ok (.aload_n 0, 1) := by decide +kernel
theorem dX0_takeFirst_10 : decode cX0_takeFirst 10 = .ok (.getfield 18, 3) := by decide +kernel
theorem dX0_takeFirst_13 : decode cX0_takeFirst 13 = .ok (.iload_n 3, 1) := by decide +kernel
theorem dX0_takeFirst_14 : decode cX0_takeFirst 14 = .ok (.aload_n 0, 1) := by decide +kernel
theorem dX0_takeFirst_15 : decode cX0_takeFirst 15 = .ok (.aload_n 0, 1) := by decide +kernel
theorem dX0_takeFirst_16 : decode cX0_takeFirst 16 = .ok (.getfield 9, 3) := by decide +kernel
theorem dX0_takeFirst_19 : decode cX0_takeFirst 19 = .ok (.iload_n 3, 1) := by decide +kernel
theorem dX0_takeFirst_20 : decode cX0_takeFirst 20 = .ok (.iaload, 1) := by decide +kernel
theorem dX0_takeFirst_21 : decode cX0_takeFirst 21 = .ok (.iload_n 2, 1) := by decide +kernel
theorem dX0_takeFirst_22 : decode cX0_takeFirst 22 = .ok (.iconst (-1), 1) := by decide +kernel
theorem dX0_takeFirst_23 : decode cX0_takeFirst 23 = .ok (.ixor, 1) := by decide +kernel
theorem dX0_takeFirst_24 : decode cX0_takeFirst 24 = .ok (.iand, 1) := by decide +kernel
theorem dX0_takeFirst_25 : decode cX0_takeFirst 25 = .ok (.iload_n 2, 1) := by decide +kernel
theorem dX0_takeFirst_26 : decode cX0_takeFirst 26 = .ok (.iload_n 1, 1) := by decide +kernel
theorem dX0_takeFirst_27 : decode cX0_takeFirst 27 = .ok (.invokevirtual 44, 3) := by decide +kernel
theorem dX0_takeFirst_30 : decode cX0_takeFirst 30 = .ok (.iastore, 1) := by decide +kernel
theorem dX0_takeFirst_31 : decode cX0_takeFirst 31 = .ok (.iload_n 2, 1) := by decide +kernel
theorem dX0_takeFirst_32 : decode cX0_takeFirst 32 = .ok (.iconst 1, 1) := by decide +kernel
theorem dX0_takeFirst_33 : decode cX0_takeFirst 33 = .ok (.aload_n 0, 1) := by decide +kernel
theorem dX0_takeFirst_34 : decode cX0_takeFirst 34 = .ok (.getfield 18, 3) := by decide +kernel
theorem dX0_takeFirst_37 : decode cX0_takeFirst 37 = .ok (.iload_n 3, 1) := by decide +kernel
theorem dX0_takeFirst_38 : decode cX0_takeFirst 38 = .ok (.iaload, 1) := by decide +kernel
theorem dX0_takeFirst_39 : decode cX0_takeFirst 39 = .ok (.ishl, 1) := by decide +kernel
theorem dX0_takeFirst_40 : decode cX0_takeFirst 40 = .ok (.ior, 1) := by decide +kernel
theorem dX0_takeFirst_41 : decode cX0_takeFirst 41 = .ok (.istore_n 2, 1) := by decide +kernel
theorem dX0_takeFirst_42 : decode cX0_takeFirst 42 = .ok (.iinc 3 1, 3) := by decide +kernel
theorem dX0_takeFirst_45 : decode cX0_takeFirst 45 = .ok (.goto (-41), 3) := by decide +kernel
theorem dX0_takeFirst_48 : decode cX0_takeFirst 48 = .ok (.return_, 1) := by decide +kernel
theorem dX0_firstFor_0 : decode cX0_firstFor 0 = .ok (.iconst 0, 1) := by decide +kernel
theorem dX0_firstFor_1 : decode cX0_firstFor 1 = .ok (.istore 4, 2) := by decide +kernel
theorem dX0_firstFor_3 : decode cX0_firstFor 3 = .ok (.iload 4, 2) := by decide +kernel
theorem dX0_firstFor_5 : decode cX0_firstFor 5 = .ok (.iload_n 3, 1) := by decide +kernel
theorem dX0_firstFor_6 : decode cX0_firstFor 6 = .ok (.if_icmp .ge 36, 3) := by decide +kernel
theorem dX0_firstFor_9 : decode cX0_firstFor 9 = .ok (.iload_n 1, 1) := by decide +kernel
theorem dX0_firstFor_10 : decode cX0_firstFor 10 = .ok (.iload 4, 2) := by decide +kernel
theorem dX0_firstFor_12 : decode cX0_firstFor 12 = .ok (.ishr, 1) := by decide +kernel
theorem dX0_firstFor_13 : decode cX0_firstFor 13 = .ok (.iconst 1, 1) := by decide +kernel
theorem dX0_firstFor_14 : decode cX0_firstFor 14 = .ok (.iand, 1) := by decide +kernel
theorem dX0_firstFor_15 : decode cX0_firstFor 15 = .ok (.iconst 1, 1) := by decide +kernel
theorem dX0_firstFor_16 : decode cX0_firstFor 16 = .ok (.if_icmp .ne 20, 3) := by decide +kernel
theorem dX0_firstFor_19 : decode cX0_firstFor 19 = .ok (.aload_n 0, 1) := by decide +kernel
theorem dX0_firstFor_20 : decode cX0_firstFor 20 = .ok (.getfield 15, 3) := by decide +kernel
theorem dX0_firstFor_23 : decode cX0_firstFor 23 = .ok (.iload_n 2, 1) := by decide +kernel
theorem dX0_firstFor_24 : decode cX0_firstFor 24 = .ok (.iconst 1, 1) := by decide +kernel
theorem dX0_firstFor_25 : decode cX0_firstFor 25 = .ok (.iload 4, 2) := by decide +kernel
theorem dX0_firstFor_27 : decode cX0_firstFor 27 = .ok (.ishl, 1) := by decide +kernel
theorem dX0_firstFor_28 : decode cX0_firstFor 28 = .ok (.ior, 1) := by decide +kernel
theorem dX0_firstFor_29 : decode cX0_firstFor 29 = .ok (.iaload, 1) := by decide +kernel
theorem dX0_firstFor_30 : decode cX0_firstFor 30 = .ok (.ifCond .le 6, 3) := by decide +kernel
theorem dX0_firstFor_33 : decode cX0_firstFor 33 = .ok (.iload 4, 2) := by decide +kernel
theorem dX0_firstFor_35 : decode cX0_firstFor 35 = .ok (.ireturn, 1) := by decide +kernel
theorem dX0_firstFor_36 : decode cX0_firstFor 36 = .ok (.iinc 4 1, 3) := by decide +kernel
theorem dX0_firstFor_39 : decode cX0_firstFor 39 = .ok (.goto (-36), 3) := by decide +kernel
theorem dX0_firstFor_42 : decode cX0_firstFor 42 = .ok (.iconst 0, 1) := by decide +kernel
theorem dX0_firstFor_43 : decode cX0_firstFor 43 = .ok (.ireturn, 1) := by decide +kernel
theorem dX1_init_0 : decode cX1_init 0 = .ok (.aload_n 0, 1) := by decide +kernel
theorem dX1_init_1 : decode cX1_init 1 = .ok (.invokespecial 3, 3) := by decide +kernel
theorem dX1_init_4 : decode cX1_init 4 = .ok (.aload_n 0, 1) := by decide +kernel
theorem dX1_init_5 : decode cX1_init 5 = .ok (.bipush 7, 2) := by decide +kernel
theorem dX1_init_7 : decode cX1_init 7 = .ok (.iconst 4, 1) := by decide +kernel
theorem dX1_init_8 : decode cX1_init 8 = .ok (.multianewarray 9 2, 4) := by decide +kernel
theorem dX1_init_12 : decode cX1_init 12 = .ok (.putfield 11, 3) := by decide +kernel
theorem dX1_init_15 : decode cX1_init 15 = .ok (.aload_n 0, 1) := by decide +kernel
theorem dX1_init_16 : decode cX1_init 16 = .ok (.bipush 16, 2) := by decide +kernel
theorem dX1_init_18 : decode cX1_init 18 = .ok (.iconst 4, 1) := by decide +kernel
theorem dX1_init_19 : decode cX1_init 19 = .ok (.multianewarray 9 2, 4) := by decide +kernel
theorem dX1_init_23 : decode cX1_init 23 = .ok (.putfield 16, 3) := by decide +kernel
theorem dX1_init_26 : decode cX1_init 26 = .ok (.aload_n 0, 1) := by decide +kernel
theorem dX1_init_27 : decode cX1_init 27 = .ok (.iconst 2, 1) := by decide +kernel
theorem dX1_init_28 : decode cX1_init 28 = .ok (.newarray .int, 2) := by decide +kernel
theorem dX1_init_30 : decode cX1_init 30 = .ok (.dup, 1) := by decide +kernel
theorem dX1_init_31 : decode cX1_init 31 = .ok (.iconst 0, 1) := by decide +kernel
theorem dX1_init_32 : decode cX1_init 32 = .ok (.iconst 2, 1) := by decide +kernel
theorem dX1_init_33 : decode cX1_init 33 = .ok (.iastore, 1) := by decide +kernel
theorem dX1_init_34 : decode cX1_init 34 = .ok (.dup, 1) := by decide +kernel
theorem dX1_init_35 : decode cX1_init 35 = .ok (.iconst 1, 1) := by decide +kernel
theorem dX1_init_36 : decode cX1_init 36 = .ok (.iconst 3, 1) := by decide +kernel
theorem dX1_init_37 : decode cX1_init 37 = .ok (.iastore, 1) := by decide +kernel
theorem dX1_init_38 : decode cX1_init 38 = .ok (.putfield 19, 3) := by decide +kernel
theorem dX1_init_41 : decode cX1_init 41 = .ok (.aload_n 0, 1) := by decide +kernel
theorem dX1_init_42 : decode cX1_init 42 = .ok (.iconst 0, 1) := by decide +kernel
theorem dX1_init_43 : decode cX1_init 43 = .ok (.putfield 23, 3) := by decide +kernel
theorem dX1_init_46 : decode cX1_init 46 = .ok (.aload_n 0, 1) := by decide +kernel
theorem dX1_init_47 : decode cX1_init 47 = .ok (.iconst 0, 1) := by decide +kernel
theorem dX1_init_48 : decode cX1_init 48 = .ok (.putfield 27, 3) := by decide +kernel
theorem dX1_init_51 : decode cX1_init 51 = .ok (.return_, 1) := by decide +kernel
theorem dX1_takeBrides_0 : decode cX1_takeBrides 0 = .ok (.iconst 0, 1) := by decide +kernel
theorem dX1_takeBrides_1 : decode cX1_takeBrides 1 = .ok (.istore_n 3, 1) := by decide +kernel
theorem dX1_takeBrides_2 : decode cX1_takeBrides 2 = .ok (.iload_n 3, 1) := by decide +kernel
theorem dX1_takeBrides_3 : decode cX1_takeBrides 3 = .ok (.iload_n 2, 1) := by decide +kernel
theorem dX1_takeBrides_4 : decode cX1_takeBrides 4 = .ok (.if_icmp .ge 24, 3) := by decide +kernel
theorem dX1_takeBrides_7 : decode cX1_takeBrides 7 = .ok (.aload_n 1, 1) := by decide +kernel
theorem dX1_takeBrides_8 : decode cX1_takeBrides 8 = .ok (.iload_n 3, 1) := by decide +kernel
theorem dX1_takeBrides_9 : decode cX1_takeBrides 9 = .ok (.aaload, 1) := by decide +kernel
theorem dX1_takeBrides_10 : decode cX1_takeBrides 10 = .ok (.iconst 0, 1) := by decide +kernel
theorem dX1_takeBrides_11 : decode cX1_takeBrides 11 = .ok (.aload_n 0, 1) := by decide +kernel
theorem dX1_takeBrides_12 : decode cX1_takeBrides 12 = .ok (.getfield 11, 3) := by decide +kernel
theorem dX1_takeBrides_15 : decode cX1_takeBrides 15 = .ok (.iload_n 3, 1) := by decide +kernel
theorem dX1_takeBrides_16 : decode cX1_takeBrides 16 = .ok (.aaload, 1) := by decide +kernel
theorem dX1_takeBrides_17 : decode cX1_takeBrides 17 = .ok (.iconst 0, 1) := by decide +kernel
theorem dX1_takeBrides_18 : decode cX1_takeBrides 18 = .ok (.iconst 4, 1) := by decide +kernel
theorem dX1_takeBrides_19 : decode cX1_takeBrides 19 = .ok (.invokestatic 30, 3) := by decide +kernel
theorem dX1_takeBrides_22 : decode cX1_takeBrides 22 = .ok (.iinc 3 1, 3) := by decide +kernel
theorem dX1_takeBrides_25 : decode cX1_takeBrides 25 = .ok (.goto (-23), 3) := by decide +kernel
theorem dX1_takeBrides_28 : decode cX1_takeBrides 28 = .ok (.aload_n 0, 1) := by decide +kernel
theorem dX1_takeBrides_29 : decode cX1_takeBrides 29 = .ok (.iload_n 2, 1) := by decide +kernel
theorem dX1_takeBrides_30 : decode cX1_takeBrides 30 = .ok (.putfield 23, 3) := by decide +kernel
theorem dX1_takeBrides_33 : decode cX1_takeBrides 33 = .ok (.return_, 1) := by decide +kernel
theorem dX1_takeShoes_0 : decode cX1_takeShoes 0 = .ok (.iconst 0, 1) := by decide +kernel
theorem dX1_takeShoes_1 : decode cX1_takeShoes 1 = .ok (.istore_n 3, 1) := by decide +kernel
theorem dX1_takeShoes_2 : decode cX1_takeShoes 2 = .ok (.iload_n 3, 1) := by decide +kernel
theorem dX1_takeShoes_3 : decode cX1_takeShoes 3 = .ok (.iload_n 2, 1) := by decide +kernel
theorem dX1_takeShoes_4 : decode cX1_takeShoes 4 = .ok (.if_icmp .ge 24, 3) := by decide +kernel
theorem dX1_takeShoes_7 : decode cX1_takeShoes 7 = .ok (.aload_n 1, 1) := by decide +kernel
theorem dX1_takeShoes_8 : decode cX1_takeShoes 8 = .ok (.iload_n 3, 1) := by decide +kernel
theorem dX1_takeShoes_9 : decode cX1_takeShoes 9 = .ok (.aaload, 1) := by decide +kernel
theorem dX1_takeShoes_10 : decode cX1_takeShoes 10 = .ok (.iconst 0, 1) := by decide +kernel
theorem dX1_takeShoes_11 : decode cX1_takeShoes 11 = .ok (.aload_n 0, 1) := by decide +kernel
theorem dX1_takeShoes_12 : decode cX1_takeShoes 12 = .ok (.getfield 16, 3) := by decide +kernel
theorem dX1_takeShoes_15 : decode cX1_takeShoes 15 = .ok (.iload_n 3, 1) := by decide +kernel
theorem dX1_takeShoes_16 : decode cX1_takeShoes 16 = .ok (.aaload, 1) := by decide +kernel
theorem dX1_takeShoes_17 : decode cX1_takeShoes 17 = .ok (.iconst 0, 1) := by decide +kernel
theorem dX1_takeShoes_18 : decode cX1_takeShoes 18 = .ok (.iconst 4, 1) := by decide +kernel
theorem dX1_takeShoes_19 : decode cX1_takeShoes 19 = .ok (.invokestatic 30, 3) := by decide +kernel
theorem dX1_takeShoes_22 : decode cX1_takeShoes 22 = .ok (.iinc 3 1, 3) := by decide +kernel
theorem dX1_takeShoes_25 : decode cX1_takeShoes 25 = .ok (.goto (-23), 3) := by decide +kernel
theorem dX1_takeShoes_28 : decode cX1_takeShoes 28 = .ok (.aload_n 0, 1) := by decide +kernel
theorem dX1_takeShoes_29 : decode cX1_takeShoes 29 = .ok (.iload_n 2, 1) := by decide +kernel
theorem dX1_takeShoes_30 : decode cX1_takeShoes 30 = .ok (.putfield 27, 3) := by decide +kernel
theorem dX1_takeShoes_33 : decode cX1_takeShoes 33 = .ok (.return_, 1) := by decide +kernel
theorem dX1_takeAll_0 : decode cX1_takeAll 0 = .ok (.aload_n 0, 1) := by decide +kernel
theorem dX1_takeAll_1 : decode cX1_takeAll 1 = .ok (.aload_n 1, 1) := by decide +kernel
theorem dX1_takeAll_2 : decode cX1_takeAll 2 = .ok (.getfield 11, 3) := by decide +kernel
theorem dX1_takeAll_5 : decode cX1_takeAll 5 = .ok (.aload_n 1, 1) := by decide +kernel
theorem dX1_takeAll_6 : decode cX1_takeAll 6 = .ok (.getfield 23, 3) := by decide +kernel
theorem dX1_takeAll_9 : decode cX1_takeAll 9 = .ok (.invokevirtual 36, 3) := by decide +kernel
theorem dX1_takeAll_12 : decode cX1_takeAll 12 = .ok (.aload_n 0, 1) := by decide +kernel
theorem dX1_takeAll_13 : decode cX1_takeAll 13 = .ok (.aload_n 1, 1) := by decide +kernel
theorem dX1_takeAll_14 : decode cX1_takeAll 14 = .ok (.getfield 16, 3) := by decide +kernel
theorem dX1_takeAll_17 : decode cX1_takeAll 17 = .ok (.aload_n 1, 1) := by decide +kernel
theorem dX1_takeAll_18 : decode cX1_takeAll 18 = .ok (.getfield 27, 3) := by decide +kernel
theorem dX1_takeAll_21 : decode cX1_takeAll 21 = .ok (.invokevirtual 40, 3) := by decide +kernel
theorem dX1_takeAll_24 : decode cX1_takeAll 24 = .ok (.aload_n 1, 1) := by decide +kernel
theorem dX1_takeAll_25 : decode cX1_takeAll 25 = .ok (.getfield 19, 3) := by decide +kernel
theorem dX1_takeAll_28 : decode cX1_takeAll 28 = .ok (.iconst 0, 1) := by decide +kernel
theorem dX1_takeAll_29 : decode cX1_takeAll 29 = .ok (.aload_n 0, 1) := by decide +kernel
theorem dX1_takeAll_30 : decode cX1_takeAll 30 = .ok (.getfield 19, 3) := by decide +kernel
theorem dX1_takeAll_33 : decode cX1_takeAll 33 = .ok (.iconst 0, 1) := by decide +kernel
theorem dX1_takeAll_34 : decode cX1_takeAll 34 = .ok (.iconst 2, 1) := by decide +kernel
theorem dX1_takeAll_35 : decode cX1_takeAll 35 = .ok (.invokestatic 30, 3) := by decide +kernel
theorem dX1_takeAll_38 : decode cX1_takeAll 38 = .ok (.return_, 1) := by decide +kernel
theorem dX1_footAt_0 : decode cX1_footAt 0 = .ok (.aload_n 0, 1) := by decide +kernel
theorem dX1_footAt_1 : decode cX1_footAt 1 = .ok (.getfield 11, 3) := by decide +kernel
theorem dX1_footAt_4 : decode cX1_footAt 4 = .ok (.iload_n 1, 1) := by decide +kernel
theorem dX1_footAt_5 : decode cX1_footAt 5 = .ok (.aaload, 1) := by decide +kernel
theorem dX1_footAt_6 : decode cX1_footAt 6 = .ok (.astore 4, 2) := by decide +kernel
theorem dX1_footAt_8 : decode cX1_footAt 8 = .ok (.aload 4, 2) := by decide +kernel
theorem dX1_footAt_10 : decode cX1_footAt 10 = .ok (.iload_n 2, 1) := by decide +kernel
theorem dX1_footAt_11 : decode cX1_footAt 11 = .ok (.ifCond .ne 7, 3) := by decide +kernel
theorem dX1_footAt_14 : decode cX1_footAt 14 = .ok (.iconst 0, 1) := by decide +kernel
theorem dX1_footAt_15 : decode cX1_footAt 15 = .ok (.goto 4, 3) := by decide +kernel
theorem dX1_footAt_18 : decode cX1_footAt 18 = .ok (.iconst 1, 1) := by decide +kernel
theorem dX1_footAt_19 : decode cX1_footAt 19 = .ok (.iaload, 1) := by decide +kernel
theorem dX1_footAt_20 : decode cX1_footAt 20 = .ok (.iload_n 3, 1) := by decide +kernel
theorem dX1_footAt_21 : decode cX1_footAt 21 = .ok (.aload 4, 2) := by decide +kernel
theorem dX1_footAt_23 : decode cX1_footAt 23 = .ok (.iconst 2, 1) := by decide +kernel
theorem dX1_footAt_24 : decode cX1_footAt 24 = .ok (.iaload, 1) := by decide +kernel
theorem dX1_footAt_25 : decode cX1_footAt 25 = .ok (.imul, 1) := by decide +kernel
theorem dX1_footAt_26 : decode cX1_footAt 26 = .ok (.iconst 4, 1) := by decide +kernel
theorem dX1_footAt_27 : decode cX1_footAt 27 = .ok (.idiv, 1) := by decide +kernel
theorem dX1_footAt_28 : decode cX1_footAt 28 = .ok (.iadd, 1) := by decide +kernel
theorem dX1_footAt_29 : decode cX1_footAt 29 = .ok (.ireturn, 1) := by decide +kernel
theorem dX1_looseFor_0 : decode cX1_looseFor 0 = .ok (.iload_n 1, 1) := by decide +kernel
theorem dX1_looseFor_1 : decode cX1_looseFor 1 = .ok (.iconst 1, 1) := by decide +kernel
theorem dX1_looseFor_2 : decode cX1_looseFor 2 = .ok (.if_icmp .ne 7, 3) := by decide +kernel
theorem dX1_looseFor_5 : decode cX1_looseFor 5 = .ok (.iconst 0, 1) := by decide +kernel
theorem dX1_looseFor_6 : decode cX1_looseFor 6 = .ok (.goto 9, 3) := by decide +kernel
theorem dX1_looseFor_9 : decode cX1_looseFor 9 = .ok (.aload_n 0, 1) := by decide +kernel
theorem dX1_looseFor_10 : decode cX1_looseFor 10 = .ok (.getfield 19, 3) := by decide +kernel
theorem dX1_looseFor_13 : decode cX1_looseFor 13 = .ok (.iconst 0, 1) := by decide +kernel
theorem dX1_looseFor_14 : decode cX1_looseFor 14 = .ok (.iaload, 1) := by decide +kernel
theorem dX1_looseFor_15 : decode cX1_looseFor 15 = .ok (.ireturn, 1) := by decide +kernel
theorem dX1_leastOut_0 : decode cX1_leastOut 0 = .ok (.aload_n 0, 1) := by decide +kernel
theorem dX1_leastOut_1 : decode cX1_leastOut 1 = .ok (.getfield 16, 3) := by decide +kernel
theorem dX1_leastOut_4 : decode cX1_leastOut 4 = .ok (.iload_n 1, 1) := by decide +kernel
theorem dX1_leastOut_5 : decode cX1_leastOut 5 = .ok (.aaload, 1) := by decide +kernel
theorem dX1_leastOut_6 : decode cX1_leastOut 6 = .ok (.astore 4, 2) := by decide +kernel
theorem dX1_leastOut_8 : decode cX1_leastOut 8 = .ok (.aload 4, 2) := by decide +kernel
theorem dX1_leastOut_10 : decode cX1_leastOut 10 = .ok (.iconst 1, 1) := by decide +kernel
theorem dX1_leastOut_11 : decode cX1_leastOut 11 = .ok (.iaload, 1) := by decide +kernel
theorem dX1_leastOut_12 : decode cX1_leastOut 12 = .ok (.istore 5, 2) := by decide +kernel
theorem dX1_leastOut_14 : decode cX1_leastOut 14 = .ok (.aload 4, 2) := by decide +kernel
theorem dX1_leastOut_16 : decode cX1_leastOut 16 = .ok (.iconst 2, 1) := by decide +kernel
theorem dX1_leastOut_17 : decode cX1_leastOut 17 = .ok (.iaload, 1) := by decide +kernel
theorem dX1_leastOut_18 : decode cX1_leastOut 18 = .ok (.istore 6, 2) := by decide +kernel
theorem dX1_leastOut_20 : decode cX1_leastOut 20 = .ok (.aload_n 0, 1) := by decide +kernel
theorem dX1_leastOut_21 : decode cX1_leastOut 21 = .ok (.iload_n 2, 1) := by decide +kernel
theorem dX1_leastOut_22 : decode cX1_leastOut 22 = .ok (.aload 4, 2) := by decide +kernel
theorem dX1_leastOut_24 : decode cX1_leastOut 24 = .ok (.iconst 0, 1) := by decide +kernel
theorem dX1_leastOut_25 : decode cX1_leastOut 25 = .ok (.iaload, 1) := by decide +kernel
theorem dX1_leastOut_26 : decode cX1_leastOut 26 = .ok (.iload_n 3, 1) := by decide +kernel
theorem dX1_leastOut_27 : decode cX1_leastOut 27 = .ok (.invokevirtual 43, 3) := by decide +kernel
theorem dX1_leastOut_30 : decode cX1_leastOut 30 = .ok (.istore 7, 2) := by decide +kernel
theorem dX1_leastOut_32 : decode cX1_leastOut 32 = .ok (.iconst 0, 1) := by decide +kernel
theorem dX1_leastOut_33 : decode cX1_leastOut 33 = .ok (.iload 7, 2) := by decide +kernel
theorem dX1_leastOut_35 : decode cX1_leastOut 35 = .ok (.getstatic 47, 3) := by decide +kernel
theorem dX1_leastOut_38 : decode cX1_leastOut 38 = .ok (.iload 6, 2) := by decide +kernel
theorem dX1_leastOut_40 : decode cX1_leastOut 40 = .ok (.iaload, 1) := by decide +kernel
theorem dX1_leastOut_41 : decode cX1_leastOut 41 = .ok (.isub, 1) := by decide +kernel
theorem dX1_leastOut_42 : decode cX1_leastOut 42 = .ok (.iload 5, 2) := by decide +kernel
theorem dX1_leastOut_44 : decode cX1_leastOut 44 = .ok (.isub, 1) := by decide +kernel
theorem dX1_leastOut_45 : decode cX1_leastOut 45 = .ok (.invokestatic 50, 3) := by decide +kernel
theorem dX1_leastOut_48 : decode cX1_leastOut 48 = .ok (.istore 8, 2) := by decide +kernel
theorem dX1_leastOut_50 : decode cX1_leastOut 50 = .ok (.iload 8, 2) := by decide +kernel
theorem dX1_leastOut_52 : decode cX1_leastOut 52 = .ok (.aload_n 0, 1) := by decide +kernel
theorem dX1_leastOut_53 : decode cX1_leastOut 53 = .ok (.getfield 19, 3) := by decide +kernel
theorem dX1_leastOut_56 : decode cX1_leastOut 56 = .ok (.iconst 1, 1) := by decide +kernel
theorem dX1_leastOut_57 : decode cX1_leastOut 57 = .ok (.iaload, 1) := by decide +kernel
theorem dX1_leastOut_58 : decode cX1_leastOut 58 = .ok (.getstatic 56, 3) := by decide +kernel
theorem dX1_leastOut_61 : decode cX1_leastOut 61 = .ok (.iload 6, 2) := by decide +kernel
theorem dX1_leastOut_63 : decode cX1_leastOut 63 = .ok (.iaload, 1) := by decide +kernel
theorem dX1_leastOut_64 : decode cX1_leastOut 64 = .ok (.invokestatic 59, 3) := by decide +kernel
theorem dX1_leastOut_67 : decode cX1_leastOut 67 = .ok (.if_icmp .gt 24, 3) := by decide +kernel
theorem dX1_leastOut_70 : decode cX1_leastOut 70 = .ok (.iload 5, 2) := by decide +kernel
theorem dX1_leastOut_72 : decode cX1_leastOut 72 = .ok (.iload 8, 2) := by decide +kernel
theorem dX1_leastOut_74 : decode cX1_leastOut 74 = .ok (.iadd, 1) := by decide +kernel
theorem dX1_leastOut_75 : decode cX1_leastOut 75 = .ok (.iload 7, 2) := by decide +kernel
theorem dX1_leastOut_77 : decode cX1_leastOut 77 = .ok (.aload_n 0, 1) := by decide +kernel
theorem dX1_leastOut_78 : decode cX1_leastOut 78 = .ok (.iload 6, 2) := by decide +kernel
theorem dX1_leastOut_80 : decode cX1_leastOut 80 = .ok (.invokevirtual 62, 3) := by decide +kernel
theorem dX1_leastOut_83 : decode cX1_leastOut 83 = .ok (.iadd, 1) := by decide +kernel
theorem dX1_leastOut_84 : decode cX1_leastOut 84 = .ok (.if_icmp .gt 7, 3) := by decide +kernel
theorem dX1_leastOut_87 : decode cX1_leastOut 87 = .ok (.iconst 1, 1) := by decide +kernel
theorem dX1_leastOut_88 : decode cX1_leastOut 88 = .ok (.goto 4, 3) := by decide +kernel
theorem dX1_leastOut_91 : decode cX1_leastOut 91 = .ok (.iconst 0, 1) := by decide +kernel
theorem dX1_leastOut_92 : decode cX1_leastOut 92 = .ok (.istore 9, 2) := by decide +kernel
theorem dX1_leastOut_94 : decode cX1_leastOut 94 = .ok (.iload 9, 2) := by decide +kernel
theorem dX1_leastOut_96 : decode cX1_leastOut 96 = .ok (.ifCond .eq 8, 3) := by decide +kernel
theorem dX1_leastOut_99 : decode cX1_leastOut 99 = .ok (.iload 8, 2) := by decide +kernel
theorem dX1_leastOut_101 : decode cX1_leastOut 101 = .ok (.goto 5, 3) := by decide +kernel
theorem dX1_leastOut_104 : decode cX1_leastOut 104 = .ok (.bipush (-4), 2) := by decide +kernel
theorem dX1_leastOut_106 : decode cX1_leastOut 106 = .ok (.ireturn, 1) := by decide +kernel
theorem dX1_limpOf_0 : decode cX1_limpOf 0 = .ok (.aload_n 0, 1) := by decide +kernel
theorem dX1_limpOf_1 : decode cX1_limpOf 1 = .ok (.getfield 16, 3) := by decide +kernel
theorem dX1_limpOf_4 : decode cX1_limpOf 4 = .ok (.iload_n 2, 1) := by decide +kernel
theorem dX1_limpOf_5 : decode cX1_limpOf 5 = .ok (.aaload, 1) := by decide +kernel
theorem dX1_limpOf_6 : decode cX1_limpOf 6 = .ok (.astore 4, 2) := by decide +kernel
theorem dX1_limpOf_8 : decode cX1_limpOf 8 = .ok (.aload 4, 2) := by decide +kernel
theorem dX1_limpOf_10 : decode cX1_limpOf 10 = .ok (.iconst 1, 1) := by decide +kernel
theorem dX1_limpOf_11 : decode cX1_limpOf 11 = .ok (.iaload, 1) := by decide +kernel
theorem dX1_limpOf_12 : decode cX1_limpOf 12 = .ok (.istore 5, 2) := by decide +kernel
theorem dX1_limpOf_14 : decode cX1_limpOf 14 = .ok (.aload_n 0, 1) := by decide +kernel
theorem dX1_limpOf_15 : decode cX1_limpOf 15 = .ok (.iload_n 1, 1) := by decide +kernel
theorem dX1_limpOf_16 : decode cX1_limpOf 16 = .ok (.aload 4, 2) := by decide +kernel
theorem dX1_limpOf_18 : decode cX1_limpOf 18 = .ok (.iconst 0, 1) := by decide +kernel
theorem dX1_limpOf_19 : decode cX1_limpOf 19 = .ok (.iaload, 1) := by decide +kernel
theorem dX1_limpOf_20 : decode cX1_limpOf 20 = .ok (.iload_n 3, 1) := by decide +kernel
theorem dX1_limpOf_21 : decode cX1_limpOf 21 = .ok (.invokevirtual 43, 3) := by decide +kernel
theorem dX1_limpOf_24 : decode cX1_limpOf 24 = .ok (.istore 6, 2) := by decide +kernel
theorem dX1_limpOf_26 : decode cX1_limpOf 26 = .ok (.iload 6, 2) := by decide +kernel
theorem dX1_limpOf_28 : decode cX1_limpOf 28 = .ok (.aload_n 0, 1) := by decide +kernel
theorem dX1_limpOf_29 : decode cX1_limpOf 29 = .ok (.aload 4, 2) := by decide +kernel
theorem dX1_limpOf_31 : decode cX1_limpOf 31 = .ok (.iconst 2, 1) := by decide +kernel
theorem dX1_limpOf_32 : decode cX1_limpOf 32 = .ok (.iaload, 1) := by decide +kernel
theorem dX1_limpOf_33 : decode cX1_limpOf 33 = .ok (.invokevirtual 62, 3) := by decide +kernel
theorem dX1_limpOf_36 : decode cX1_limpOf 36 = .ok (.iadd, 1) := by decide +kernel
theorem dX1_limpOf_37 : decode cX1_limpOf 37 = .ok (.istore 7, 2) := by decide +kernel
theorem dX1_limpOf_39 : decode cX1_limpOf 39 = .ok (.iload 6, 2) := by decide +kernel
theorem dX1_limpOf_41 : decode cX1_limpOf 41 = .ok (.getstatic 47, 3) := by decide +kernel
theorem dX1_limpOf_44 : decode cX1_limpOf 44 = .ok (.aload 4, 2) := by decide +kernel
theorem dX1_limpOf_46 : decode cX1_limpOf 46 = .ok (.iconst 2, 1) := by decide +kernel
theorem dX1_limpOf_47 : decode cX1_limpOf 47 = .ok (.iaload, 1) := by decide +kernel
theorem dX1_limpOf_48 : decode cX1_limpOf 48 = .ok (.iaload, 1) := by decide +kernel
theorem dX1_limpOf_49 : decode cX1_limpOf 49 = .ok (.isub, 1) := by decide +kernel
theorem dX1_limpOf_50 : decode cX1_limpOf 50 = .ok (.istore 8, 2) := by decide +kernel
theorem dX1_limpOf_52 : decode cX1_limpOf 52 = .ok (.iload 5, 2) := by decide +kernel
theorem dX1_limpOf_54 : decode cX1_limpOf 54 = .ok (.iload 7, 2) := by decide +kernel
theorem dX1_limpOf_56 : decode cX1_limpOf 56 = .ok (.if_icmp .le 9, 3) := by decide +kernel
theorem dX1_limpOf_59 : decode cX1_limpOf 59 = .ok (.iload 5, 2) := by decide +kernel
theorem dX1_limpOf_61 : decode cX1_limpOf 61 = .ok (.iload 7, 2) := by decide +kernel
theorem dX1_limpOf_63 : decode cX1_limpOf 63 = .ok (.isub, 1) := by decide +kernel
theorem dX1_limpOf_64 : decode cX1_limpOf 64 = .ok (.ireturn, 1) := by decide +kernel
theorem dX1_limpOf_65 : decode cX1_limpOf 65 = .ok (.iload 5, 2) := by decide +kernel
theorem dX1_limpOf_67 : decode cX1_limpOf 67 = .ok (.iload 8, 2) := by decide +kernel
theorem dX1_limpOf_69 : decode cX1_limpOf 69 = .ok (.if_icmp .ge 11, 3) := by decide +kernel
theorem dX1_limpOf_72 : decode cX1_limpOf 72 = .ok (.iload 5, 2) := by decide +kernel
theorem dX1_limpOf_74 : decode cX1_limpOf 74 = .ok (.iload 8, 2) := by decide +kernel
theorem dX1_limpOf_76 : decode cX1_limpOf 76 = .ok (.isub, 1) := by decide +kernel
theorem dX1_limpOf_77 : decode cX1_limpOf 77 = .ok (.goto 4, 3) := by decide +kernel
theorem dX1_limpOf_80 : decode cX1_limpOf 80 = .ok (.iconst 0, 1) := by decide +kernel
theorem dX1_limpOf_81 : decode cX1_limpOf 81 = .ok (.ireturn, 1) := by decide +kernel
theorem dX1_isThere_0 : decode cX1_isThere 0 = .ok (.aload_n 0, 1) := by decide +kernel
theorem dX1_isThere_1 : decode cX1_isThere 1 = .ok (.getfield 16, 3) := by decide +kernel
theorem dX1_isThere_4 : decode cX1_isThere 4 = .ok (.iload_n 1, 1) := by decide +kernel
theorem dX1_isThere_5 : decode cX1_isThere 5 = .ok (.aaload, 1) := by decide +kernel
theorem dX1_isThere_6 : decode cX1_isThere 6 = .ok (.iconst 0, 1) := by decide +kernel
theorem dX1_isThere_7 : decode cX1_isThere 7 = .ok (.iaload, 1) := by decide +kernel
theorem dX1_isThere_8 : decode cX1_isThere 8 = .ok (.iload_n 2, 1) := by decide +kernel
theorem dX1_isThere_9 : decode cX1_isThere 9 = .ok (.if_icmp .ne 18, 3) := by decide +kernel
theorem dX1_isThere_12 : decode cX1_isThere 12 = .ok (.aload_n 0, 1) := by decide +kernel
theorem dX1_isThere_13 : decode cX1_isThere 13 = .ok (.getfield 16, 3) := by decide +kernel
theorem dX1_isThere_16 : decode cX1_isThere 16 = .ok (.iload_n 1, 1) := by decide +kernel
theorem dX1_isThere_17 : decode cX1_isThere 17 = .ok (.aaload, 1) := by decide +kernel
theorem dX1_isThere_18 : decode cX1_isThere 18 = .ok (.iconst 3, 1) := by decide +kernel
theorem dX1_isThere_19 : decode cX1_isThere 19 = .ok (.iaload, 1) := by decide +kernel
theorem dX1_isThere_20 : decode cX1_isThere 20 = .ok (.ifCond .ne 7, 3) := by decide +kernel
theorem dX1_isThere_23 : decode cX1_isThere 23 = .ok (.iconst 1, 1) := by decide +kernel
theorem dX1_isThere_24 : decode cX1_isThere 24 = .ok (.goto 4, 3) := by decide +kernel
theorem dX1_isThere_27 : decode cX1_isThere 27 = .ok (.iconst 0, 1) := by decide +kernel
theorem dX1_isThere_28 : decode cX1_isThere 28 = .ok (.ireturn, 1) := by decide +kernel
theorem dX1_shoesThere_0 : decode cX1_shoesThere 0 = .ok (.iconst 0, 1) := by decide +kernel
theorem dX1_shoesThere_1 : decode cX1_shoesThere 1 = .ok (.istore_n 2, 1) := by decide +kernel
theorem dX1_shoesThere_2 : decode cX1_shoesThere 2 = .ok (.iconst 0, 1) := by decide +kernel
theorem dX1_shoesThere_3 : decode cX1_shoesThere 3 = .ok (.istore_n 3, 1) := by decide +kernel
theorem dX1_shoesThere_4 : decode cX1_shoesThere 4 = .ok (.iload_n 3, 1) := by decide +kernel
theorem dX1_shoesThere_5 : decode cX1_shoesThere 5 = .ok (.aload_n 0, 1) := by decide +kernel
theorem dX1_shoesThere_6 : decode cX1_shoesThere 6 = .ok (.getfield 27, 3) := by decide +kernel
theorem dX1_shoesThere_9 : decode cX1_shoesThere 9 = .ok (.if_icmp .ge 21, 3) := by decide +kernel
theorem dX1_shoesThere_12 : decode cX1_shoesThere 12 = .ok (.aload_n 0, 1) := by decide +kernel
theorem dX1_shoesThere_13 : decode cX1_shoesThere 13 = .ok (.iload_n 3, 1) := by decide +kernel
theorem dX1_shoesThere_14 : decode cX1_shoesThere 14 = .ok (.iload_n 1, 1) := by decide +kernel
theorem dX1_shoesThere_15 : decode cX1_shoesThere 15 = .ok (.invokevirtual 66, 3) := by decide +kernel
theorem dX1_shoesThere_18 : decode cX1_shoesThere 18 = .ok (.ifCond .eq 6, 3) := by decide +kernel
theorem dX1_shoesThere_21 : decode cX1_shoesThere 21 = .ok (.iinc 2 1, 3) := by decide +kernel
theorem dX1_shoesThere_24 : decode cX1_shoesThere 24 = .ok (.iinc 3 1, 3) := by decide +kernel
theorem dX1_shoesThere_27 : decode cX1_shoesThere 27 = .ok (.goto (-23), 3) := by decide +kernel
theorem dX1_shoesThere_30 : decode cX1_shoesThere 30 = .ok (.iload_n 2, 1) := by decide +kernel
theorem dX1_shoesThere_31 : decode cX1_shoesThere 31 = .ok (.ireturn, 1) := by decide +kernel
theorem dX2_init_0 : decode cX2_init 0 = .ok (.aload_n 0, 1) := by decide +kernel
theorem dX2_init_1 : decode cX2_init 1 = .ok (.invokespecial 3, 3) := by decide +kernel
theorem dX2_init_4 : decode cX2_init 4 = .ok (.aload_n 0, 1) := by decide +kernel
theorem dX2_init_5 : decode cX2_init 5 = .ok (.iconst 0, 1) := by decide +kernel
theorem dX2_init_6 : decode cX2_init 6 = .ok (.putfield 9, 3) := by decide +kernel
theorem dX2_init_9 : decode cX2_init 9 = .ok (.aload_n 0, 1) := by decide +kernel
theorem dX2_init_10 : decode cX2_init 10 = .ok (.bipush 14, 2) := by decide +kernel
theorem dX2_init_12 : decode cX2_init 12 = .ok (.bipush 7, 2) := by decide +kernel
theorem dX2_init_14 : decode cX2_init 14 = .ok (.multianewarray 15 2, 4) := by decide +kernel
theorem dX2_init_18 : decode cX2_init 18 = .ok (.putfield 17, 3) := by decide +kernel
theorem dX2_init_21 : decode cX2_init 21 = .ok (.aload_n 0, 1) := by decide +kernel
theorem dX2_init_22 : decode cX2_init 22 = .ok (.bipush 14, 2) := by decide +kernel
theorem dX2_init_24 : decode cX2_init 24 = .ok (.bipush 7, 2) := by decide +kernel
theorem dX2_init_26 : decode cX2_init 26 = .ok (.multianewarray 15 2, 4) := by decide +kernel
theorem dX2_init_30 : decode cX2_init 30 = .ok (.putfield 20, 3) := by decide +kernel
theorem dX2_init_33 : decode cX2_init 33 = .ok (.aload_n 0, 1) := by decide +kernel
theorem dX2_init_34 : decode cX2_init 34 = .ok (.bipush 7, 2) := by decide +kernel
theorem dX2_init_36 : decode cX2_init 36 = .ok (.newarray .int, 2) := by decide +kernel
theorem dX2_init_38 : decode cX2_init 38 = .ok (.putfield 23, 3) := by decide +kernel
theorem dX2_init_41 : decode cX2_init 41 = .ok (.aload_n 0, 1) := by decide +kernel
theorem dX2_init_42 : decode cX2_init 42 = .ok (.bipush 7, 2) := by decide +kernel
theorem dX2_init_44 : decode cX2_init 44 = .ok (.newarray .int, 2) := by decide +kernel
theorem dX2_init_46 : decode cX2_init 46 = .ok (.putfield 27, 3) := by decide +kernel
theorem dX2_init_49 : decode cX2_init 49 = .ok (.aload_n 0, 1) := by decide +kernel
theorem dX2_init_50 : decode cX2_init 50 = .ok (.bipush 7, 2) := by decide +kernel
theorem dX2_init_52 : decode cX2_init 52 = .ok (.newarray .int, 2) := by decide +kernel
theorem dX2_init_54 : decode cX2_init 54 = .ok (.putfield 30, 3) := by decide +kernel
theorem dX2_init_57 : decode cX2_init 57 = .ok (.return_, 1) := by decide +kernel
theorem dX2_read_0 : decode cX2_read 0 = .ok (.aload_n 0, 1) := by decide +kernel
theorem dX2_read_1 : decode cX2_read 1 = .ok (.iload_n 3, 1) := by decide +kernel
theorem dX2_read_2 : decode cX2_read 2 = .ok (.putfield 9, 3) := by decide +kernel
theorem dX2_read_5 : decode cX2_read 5 = .ok (.iconst 0, 1) := by decide +kernel
theorem dX2_read_6 : decode cX2_read 6 = .ok (.istore 4, 2) := by decide +kernel
theorem dX2_read_8 : decode cX2_read 8 = .ok (.iload 4, 2) := by decide +kernel
theorem dX2_read_10 : decode cX2_read 10 = .ok (.iconst 2, 1) := by decide +kernel
theorem dX2_read_11 : decode cX2_read 11 = .ok (.aload_n 0, 1) := by decide +kernel
theorem dX2_read_12 : decode cX2_read 12 = .ok (.getfield 9, 3) := by decide +kernel
theorem dX2_read_15 : decode cX2_read 15 = .ok (.imul, 1) := by decide +kernel
theorem dX2_read_16 : decode cX2_read 16 = .ok (.if_icmp .ge 42, 3) := by decide +kernel
theorem dX2_read_19 : decode cX2_read 19 = .ok (.aload_n 0, 1) := by decide +kernel
theorem dX2_read_20 : decode cX2_read 20 = .ok (.aload_n 1, 1) := by decide +kernel
theorem dX2_read_21 : decode cX2_read 21 = .ok (.iload_n 2, 1) := by decide +kernel
theorem dX2_read_22 : decode cX2_read 22 = .ok (.iload 4, 2) := by decide +kernel
theorem dX2_read_24 : decode cX2_read 24 = .ok (.aload_n 0, 1) := by decide +kernel
theorem dX2_read_25 : decode cX2_read 25 = .ok (.getfield 9, 3) := by decide +kernel
theorem dX2_read_28 : decode cX2_read 28 = .ok (.imul, 1) := by decide +kernel
theorem dX2_read_29 : decode cX2_read 29 = .ok (.iadd, 1) := by decide +kernel
theorem dX2_read_30 : decode cX2_read 30 = .ok (.aload_n 0, 1) := by decide +kernel
theorem dX2_read_31 : decode cX2_read 31 = .ok (.getfield 17, 3) := by decide +kernel
theorem dX2_read_34 : decode cX2_read 34 = .ok (.iload 4, 2) := by decide +kernel
theorem dX2_read_36 : decode cX2_read 36 = .ok (.aaload, 1) := by decide +kernel
theorem dX2_read_37 : decode cX2_read 37 = .ok (.aload_n 0, 1) := by decide +kernel
theorem dX2_read_38 : decode cX2_read 38 = .ok (.getfield 20, 3) := by decide +kernel
theorem dX2_read_41 : decode cX2_read 41 = .ok (.iload 4, 2) := by decide +kernel
theorem dX2_read_43 : decode cX2_read 43 = .ok (.aaload, 1) := by decide +kernel
theorem dX2_read_44 : decode cX2_read 44 = .ok (.invokevirtual 33, 3) := by decide +kernel
theorem dX2_read_47 : decode cX2_read 47 = .ok (.ifCond .ne 5, 3) := by decide +kernel
theorem dX2_read_50 : decode cX2_read 50 = .ok (.iconst 0, 1) := by decide +kernel
theorem dX2_read_51 : decode cX2_read 51 = .ok (.ireturn, 1) := by decide +kernel
theorem dX2_read_52 : decode cX2_read 52 = .ok (.iinc 4 1, 3) := by decide +kernel
theorem dX2_read_55 : decode cX2_read 55 = .ok (.goto (-47), 3) := by decide +kernel
theorem dX2_read_58 : decode cX2_read 58 = .ok (.iconst 1, 1) := by decide +kernel
theorem dX2_read_59 : decode cX2_read 59 = .ok (.ireturn, 1) := by decide +kernel
theorem dX2_readPairs_0 : decode cX2_readPairs 0 = .ok (.aload_n 0, 1) := by decide +kernel
theorem dX2_readPairs_1 : decode cX2_readPairs 1 = .ok (.aload_n 1, 1) := by decide +kernel
theorem dX2_readPairs_2 : decode cX2_readPairs 2 = .ok (.iconst 0, 1) := by decide +kernel
theorem dX2_readPairs_3 : decode cX2_readPairs 3 = .ok (.aload_n 0, 1) := by decide +kernel
theorem dX2_readPairs_4 : decode cX2_readPairs 4 = .ok (.getfield 23, 3) := by decide +kernel
theorem dX2_readPairs_7 : decode cX2_readPairs 7 = .ok (.aload_n 0, 1) := by decide +kernel
theorem dX2_readPairs_8 : decode cX2_readPairs 8 = .ok (.getfield 27, 3) := by decide +kernel
theorem dX2_readPairs_11 : decode cX2_readPairs 11 = .ok (.invokevirtual 33, 3) := by decide +kernel
theorem dX2_readPairs_14 : decode cX2_readPairs 14 = .ok (.ireturn, 1) := by decide +kernel
theorem dX2_readRow_0 : decode cX2_readRow 0 = .ok (.iconst 0, 1) := by decide +kernel
theorem dX2_readRow_1 : decode cX2_readRow 1 = .ok (.istore 5, 2) := by decide +kernel
theorem dX2_readRow_3 : decode cX2_readRow 3 = .ok (.iconst 0, 1) := by decide +kernel
theorem dX2_readRow_4 : decode cX2_readRow 4 = .ok (.istore 6, 2) := by decide +kernel
theorem dX2_readRow_6 : decode cX2_readRow 6 = .ok (.iload 6, 2) := by decide +kernel
theorem dX2_readRow_8 : decode cX2_readRow 8 = .ok (.aload_n 0, 1) := by decide +kernel
theorem dX2_readRow_9 : decode cX2_readRow 9 = .ok (.getfield 9, 3) := by decide +kernel
theorem dX2_readRow_12 : decode cX2_readRow 12 = .ok (.if_icmp .ge 67, 3) := by decide +kernel
theorem dX2_readRow_15 : decode cX2_readRow 15 = .ok (.aload_n 1, 1) := by decide +kernel
theorem dX2_readRow_16 : decode cX2_readRow 16 = .ok (.iload_n 2, 1) := by decide +kernel
theorem dX2_readRow_17 : decode cX2_readRow 17 = .ok (.iload 6, 2) := by decide +kernel
theorem dX2_readRow_19 : decode cX2_readRow 19 = .ok (.iadd, 1) := by decide +kernel
theorem dX2_readRow_20 : decode cX2_readRow 20 = .ok (.iaload, 1) := by decide +kernel
theorem dX2_readRow_21 : decode cX2_readRow 21 = .ok (.istore 7, 2) := by decide +kernel
theorem dX2_readRow_23 : decode cX2_readRow 23 = .ok (.iload 7, 2) := by decide +kernel
theorem dX2_readRow_25 : decode cX2_readRow 25 = .ok (.iconst 0, 1) := by decide +kernel
theorem dX2_readRow_26 : decode cX2_readRow 26 = .ok (.aload_n 0, 1) := by decide +kernel
theorem dX2_readRow_27 : decode cX2_readRow 27 = .ok (.getfield 9, 3) := by decide +kernel
theorem dX2_readRow_30 : decode cX2_readRow 30 = .ok (.iconst 1, 1) := by decide +kernel
theorem dX2_readRow_31 : decode cX2_readRow 31 = .ok (.isub, 1) := by decide +kernel
theorem dX2_readRow_32 : decode cX2_readRow 32 = .ok (.invokestatic 37, 3) := by decide +kernel
theorem dX2_readRow_35 : decode cX2_readRow 35 = .ok (.ifCond .eq 14, 3) := by decide +kernel
theorem dX2_readRow_38 : decode cX2_readRow 38 = .ok (.iload 5, 2) := by decide +kernel
theorem dX2_readRow_40 : decode cX2_readRow 40 = .ok (.iload 7, 2) := by decide +kernel
theorem dX2_readRow_42 : decode cX2_readRow 42 = .ok (.ishr, 1) := by decide +kernel
theorem dX2_readRow_43 : decode cX2_readRow 43 = .ok (.iconst 1, 1) := by decide +kernel
theorem dX2_readRow_44 : decode cX2_readRow 44 = .ok (.iand, 1) := by decide +kernel
theorem dX2_readRow_45 : decode cX2_readRow 45 = .ok (.iconst 1, 1) := by decide +kernel
theorem dX2_readRow_46 : decode cX2_readRow 46 = .ok (.if_icmp .ne 5, 3) := by decide +kernel
theorem dX2_readRow_49 : decode cX2_readRow 49 = .ok (.iconst 0, 1) := by decide +kernel
theorem dX2_readRow_50 : decode cX2_readRow 50 = .ok (.ireturn, 1) := by decide +kernel
theorem dX2_readRow_51 : decode cX2_readRow 51 = .ok (.iload 5, 2) := by decide +kernel
theorem dX2_readRow_53 : decode cX2_readRow 53 = .ok (.iconst 1, 1) := by decide +kernel
theorem dX2_readRow_54 : decode cX2_readRow 54 = .ok (.iload 7, 2) := by decide +kernel
theorem dX2_readRow_56 : decode cX2_readRow 56 = .ok (.ishl, 1) := by decide +kernel
theorem dX2_readRow_57 : decode cX2_readRow 57 = .ok (.ior, 1) := by decide +kernel
theorem dX2_readRow_58 : decode cX2_readRow 58 = .ok (.istore 5, 2) := by decide +kernel
theorem dX2_readRow_60 : decode cX2_readRow 60 = .ok (.aload_n 3, 1) := by decide +kernel
theorem dX2_readRow_61 : decode cX2_readRow 61 = .ok (.iload 6, 2) := by decide +kernel
theorem dX2_readRow_63 : decode cX2_readRow 63 = .ok (.iload 7, 2) := by decide +kernel
theorem dX2_readRow_65 : decode cX2_readRow 65 = .ok (.iastore, 1) := by decide +kernel
theorem dX2_readRow_66 : decode cX2_readRow 66 = .ok (.aload 4, 2) := by decide +kernel
theorem dX2_readRow_68 : decode cX2_readRow 68 = .ok (.iload 7, 2) := by decide +kernel
theorem dX2_readRow_70 : decode cX2_readRow 70 = .ok (.iload 6, 2) := by decide +kernel
theorem dX2_readRow_72 : decode cX2_readRow 72 = .ok (.iastore, 1) := by decide +kernel
theorem dX2_readRow_73 : decode cX2_readRow 73 = .ok (.iinc 6 1, 3) := by decide +kernel
theorem dX2_readRow_76 : decode cX2_readRow 76 = .ok (.goto (-70), 3) := by decide +kernel
theorem dX2_readRow_79 : decode cX2_readRow 79 = .ok (.iconst 1, 1) := by decide +kernel
theorem dX2_readRow_80 : decode cX2_readRow 80 = .ok (.ireturn, 1) := by decide +kernel
theorem dX2_pairByBrides_0 : decode cX2_pairByBrides 0 = .ok (.aload_n 0, 1) := by decide +kernel
theorem dX2_pairByBrides_1 : decode cX2_pairByBrides 1 = .ok (.getfield 23, 3) := by decide +kernel
theorem dX2_pairByBrides_4 : decode cX2_pairByBrides 4 = .ok (.iconst (-1), 1) := by decide +kernel
theorem dX2_pairByBrides_5 : decode cX2_pairByBrides 5 = .ok (.invokestatic 41, 3) := by decide +kernel
theorem dX2_pairByBrides_8 : decode cX2_pairByBrides 8 = .ok (.aload_n 0, 1) := by decide +kernel
theorem dX2_pairByBrides_9 : decode cX2_pairByBrides 9 = .ok (.getfield 27, 3) := by decide +kernel
theorem dX2_pairByBrides_12 : decode cX2_pairByBrides 12 = .ok (.iconst (-1), 1) := by decide +kernel
theorem dX2_pairByBrides_13 : decode cX2_pairByBrides 13 = .ok (.invokestatic 41, 3) := by decide +kernel
theorem dX2_pairByBrides_16 : decode cX2_pairByBrides 16 = .ok (.aload_n 0, 1) := by decide +kernel
theorem dX2_pairByBrides_17 : decode cX2_pairByBrides 17 = .ok (.getfield 30, 3) := by decide +kernel
theorem dX2_pairByBrides_20 : decode cX2_pairByBrides 20 = .ok (.iconst 0, 1) := by decide +kernel
theorem dX2_pairByBrides_21 : decode cX2_pairByBrides 21 = .ok (.invokestatic 41, 3) := by decide +kernel
theorem dX2_pairByBrides_24 : decode cX2_pairByBrides 24 = .ok (.iconst 0, 1) := by decide +kernel
theorem dX2_pairByBrides_25 : decode cX2_pairByBrides 25 = .ok (.istore_n 1, 1) := by decide +kernel
theorem dX2_pairByBrides_26 : decode cX2_pairByBrides 26 = .ok (.iload_n 1, 1) := by decide +kernel
theorem dX2_pairByBrides_27 : decode cX2_pairByBrides 27 = .ok (.aload_n 0, 1) := by decide +kernel
theorem dX2_pairByBrides_28 : decode cX2_pairByBrides 28 = .ok (.getfield 9, 3) := by decide +kernel
theorem dX2_pairByBrides_31 : decode cX2_pairByBrides 31 = .ok (.aload_n 0, 1) := by decide +kernel
theorem dX2_pairByBrides_32 : decode cX2_pairByBrides 32 = .ok (.getfield 9, 3) := by decide +kernel
theorem dX2_pairByBrides_35 : decode cX2_pairByBrides 35 = .ok (.imul, 1) := by decide +kernel
theorem dX2_pairByBrides_36 : decode cX2_pairByBrides 36 = .ok (.if_icmp .ge 37, 3) := by decide +kernel
theorem dX2_pairByBrides_39 : decode cX2_pairByBrides 39 = .ok (.aload_n 0, 1) := by decide +kernel
theorem dX2_pairByBrides_40 : decode cX2_pairByBrides 40 = .ok (.invokevirtual 47, 3) := by decide +kernel
theorem dX2_pairByBrides_43 : decode cX2_pairByBrides 43 = .ok (.istore_n 2, 1) := by decide +kernel
theorem dX2_pairByBrides_44 : decode cX2_pairByBrides 44 = .ok (.iload_n 2, 1) := by decide +kernel
theorem dX2_pairByBrides_45 : decode cX2_pairByBrides 45 = .ok (.ifCond .lt 16, 3) := by decide +kernel
theorem dX2_pairByBrides_48 : decode cX2_pairByBrides 48 = .ok (.aload_n 0, 1) := by decide +kernel
theorem dX2_pairByBrides_49 : decode cX2_pairByBrides 49 = .ok (.getfield 30, 3) := by decide +kernel
theorem dX2_pairByBrides_52 : decode cX2_pairByBrides 52 = .ok (.iload_n 2, 1) := by decide +kernel
theorem dX2_pairByBrides_53 : decode cX2_pairByBrides 53 = .ok (.iaload, 1) := by decide +kernel
theorem dX2_pairByBrides_54 : decode cX2_pairByBrides 54 = .ok (.aload_n 0, 1) := by decide +kernel
theorem dX2_pairByBrides_55 : decode cX2_pairByBrides 55 = .ok (.getfield 9, 3) := by decide +kernel
theorem dX2_pairByBrides_58 : decode cX2_pairByBrides 58 = .ok (.if_icmp .lt 4, 3) := by decide +kernel
theorem dX2_pairByBrides_61 : decode cX2_pairByBrides 61 = .ok (.return_, 1) := by decide +kernel
theorem dX2_pairByBrides_62 : decode cX2_pairByBrides 62 = .ok (.aload_n 0, 1) := by decide +kernel
theorem dX2_pairByBrides_63 : decode cX2_pairByBrides 63 = .ok (.iload_n 2, 1) := by decide +kernel
theorem dX2_pairByBrides_64 : decode cX2_pairByBrides 64 = .ok (.invokevirtual 51, 3) := by decide +kernel
theorem dX2_pairByBrides_67 : decode cX2_pairByBrides 67 = .ok (.iinc 1 1, 3) := by decide +kernel
theorem dX2_pairByBrides_70 : decode cX2_pairByBrides 70 = .ok (.goto (-44), 3) := by decide +kernel
theorem dX2_pairByBrides_73 : decode cX2_pairByBrides 73 = .ok (.return_, 1) := by decide +kernel
theorem dX2_firstAlone_0 : decode cX2_firstAlone 0 = .ok (.iconst 0, 1) := by decide +kernel
theorem dX2_firstAlone_1 : decode cX2_firstAlone 1 = .ok (.istore_n 1, 1) := by decide +kernel
theorem dX2_firstAlone_2 : decode cX2_firstAlone 2 = .ok (.iload_n 1, 1) := by decide +kernel
theorem dX2_firstAlone_3 : decode cX2_firstAlone 3 = .ok (.aload_n 0, 1) := by decide +kernel
theorem dX2_firstAlone_4 : decode cX2_firstAlone 4 = .ok (.getfield 9, 3) := by decide +kernel
theorem dX2_firstAlone_7 : decode cX2_firstAlone 7 = .ok (.if_icmp .ge 20, 3) := by decide +kernel
theorem dX2_firstAlone_10 : decode cX2_firstAlone 10 = .ok (.aload_n 0, 1) := by decide +kernel
theorem dX2_firstAlone_11 : decode cX2_firstAlone 11 = .ok (.getfield 23, 3) := by decide +kernel
theorem dX2_firstAlone_14 : decode cX2_firstAlone 14 = .ok (.iload_n 1, 1) := by decide +kernel
theorem dX2_firstAlone_15 : decode cX2_firstAlone 15 = .ok (.iaload, 1) := by decide +kernel
theorem dX2_firstAlone_16 : decode cX2_firstAlone 16 = .ok (.ifCond .ge 5, 3) := by decide +kernel
theorem dX2_firstAlone_19 : decode cX2_firstAlone 19 = .ok (.iload_n 1, 1) := by decide +kernel
theorem dX2_firstAlone_20 : decode cX2_firstAlone 20 = .ok (.ireturn, 1) := by decide +kernel
theorem dX2_firstAlone_21 : decode cX2_firstAlone 21 = .ok (.iinc 1 1, 3) := by decide +kernel
theorem dX2_firstAlone_24 : decode cX2_firstAlone 24 = .ok (.goto (-22), 3) := by decide +kernel
theorem dX2_firstAlone_27 : decode cX2_firstAlone 27 = .ok (.iconst (-1), 1) := by decide +kernel
theorem dX2_firstAlone_28 : decode cX2_firstAlone 28 = .ok (.ireturn, 1) := by decide +kernel
theorem dX2_askNext_0 : decode cX2_askNext 0 = .ok (.aload_n 0, 1) := by decide +kernel
theorem dX2_askNext_1 : decode cX2_askNext 1 = .ok (.getfield 17, 3) := by decide +kernel
theorem dX2_askNext_4 : decode cX2_askNext 4 = .ok (.iload_n 1, 1) := by decide +kernel
theorem dX2_askNext_5 : decode cX2_askNext 5 = .ok (.aaload, 1) := by decide +kernel
theorem dX2_askNext_6 : decode cX2_askNext 6 = .ok (.aload_n 0, 1) := by decide +kernel
theorem dX2_askNext_7 : decode cX2_askNext 7 = .ok (.getfield 30, 3) := by decide +kernel
theorem dX2_askNext_10 : decode cX2_askNext 10 = .ok (.iload_n 1, 1) := by decide +kernel
theorem dX2_askNext_11 : decode cX2_askNext 11 = .ok (.iaload, 1) := by decide +kernel
theorem dX2_askNext_12 : decode cX2_askNext 12 = .ok (.iaload, 1) := by decide +kernel
theorem dX2_askNext_13 : decode cX2_askNext 13 = .ok (.istore_n 2, 1) := by decide +kernel
theorem dX2_askNext_14 : decode cX2_askNext 14 = .ok (.aload_n 0, 1) := by decide +kernel
theorem dX2_askNext_15 : decode cX2_askNext 15 = .ok (.getfield 30, 3) := by decide +kernel
theorem dX2_askNext_18 : decode cX2_askNext 18 = .ok (.iload_n 1, 1) := by decide +kernel
theorem dX2_askNext_19 : decode cX2_askNext 19 = .ok (.dup2, 1) := by decide +kernel
theorem dX2_askNext_20 : decode cX2_askNext 20 = .ok (.iaload, 1) := by decide +kernel
theorem dX2_askNext_21 : decode cX2_askNext 21 = .ok (.iconst 1, 1) := by decide +kernel
theorem dX2_askNext_22 : decode cX2_askNext 22 = .ok (.iadd, 1) := by decide +kernel
theorem dX2_askNext_23 : decode cX2_askNext 23 = .ok (.iastore, 1) := by decide +kernel
theorem dX2_askNext_24 : decode cX2_askNext 24 = .ok (.aload_n 0, 1) := by decide +kernel
theorem dX2_askNext_25 : decode cX2_askNext 25 = .ok (.getfield 27, 3) := by decide +kernel
theorem dX2_askNext_28 : decode cX2_askNext 28 = .ok (.iload_n 2, 1) := by decide +kernel
theorem dX2_askNext_29 : decode cX2_askNext 29 = .ok (.iaload, 1) := by decide +kernel
theorem dX2_askNext_30 : decode cX2_askNext 30 = .ok (.istore_n 3, 1) := by decide +kernel
theorem dX2_askNext_31 : decode cX2_askNext 31 = .ok (.iload_n 3, 1) := by decide +kernel
theorem dX2_askNext_32 : decode cX2_askNext 32 = .ok (.ifCond .lt 14, 3) := by decide +kernel
theorem dX2_askNext_35 : decode cX2_askNext 35 = .ok (.aload_n 0, 1) := by decide +kernel
theorem dX2_askNext_36 : decode cX2_askNext 36 = .ok (.iload_n 2, 1) := by decide +kernel
theorem dX2_askNext_37 : decode cX2_askNext 37 = .ok (.iload_n 1, 1) := by decide +kernel
theorem dX2_askNext_38 : decode cX2_askNext 38 = .ok (.iload_n 3, 1) := by decide +kernel
theorem dX2_askNext_39 : decode cX2_askNext 39 = .ok (.invokevirtual 55, 3) := by decide +kernel
theorem dX2_askNext_42 : decode cX2_askNext 42 = .ok (.ifCond .ne 4, 3) := by decide +kernel
theorem dX2_askNext_45 : decode cX2_askNext 45 = .ok (.return_, 1) := by decide +kernel
theorem dX2_askNext_46 : decode cX2_askNext 46 = .ok (.iload_n 3, 1) := by decide +kernel
theorem dX2_askNext_47 : decode cX2_askNext 47 = .ok (.ifCond .lt 10, 3) := by decide +kernel
theorem dX2_askNext_50 : decode cX2_askNext 50 = .ok (.aload_n 0, 1) := by decide +kernel
theorem dX2_askNext_51 : decode cX2_askNext 51 = .ok (.getfield 23, 3) := by decide +kernel
theorem dX2_askNext_54 : decode cX2_askNext 54 = .ok (.iload_n 3, 1) := by decide +kernel
theorem dX2_askNext_55 : decode cX2_askNext 55 = .ok (.iconst (-1), 1) := by decide +kernel
theorem dX2_askNext_56 : decode cX2_askNext 56 = .ok (.iastore, 1) := by decide +kernel
theorem dX2_askNext_57 : decode cX2_askNext 57 = .ok (.aload_n 0, 1) := by decide +kernel
theorem dX2_askNext_58 : decode cX2_askNext 58 = .ok (.getfield 27, 3) := by decide +kernel
theorem dX2_askNext_61 : decode cX2_askNext 61 = .ok (.iload_n 2, 1) := by decide +kernel
theorem dX2_askNext_62 : decode cX2_askNext 62 = .ok (.iload_n 1, 1) := by decide +kernel
theorem dX2_askNext_63 : decode cX2_askNext 63 = .ok (.iastore, 1) := by decide +kernel
theorem dX2_askNext_64 : decode cX2_askNext 64 = .ok (.aload_n 0, 1) := by decide +kernel
theorem dX2_askNext_65 : decode cX2_askNext 65 = .ok (.getfield 23, 3) := by decide +kernel
theorem dX2_askNext_68 : decode cX2_askNext 68 = .ok (.iload_n 1, 1) := by decide +kernel
theorem dX2_askNext_69 : decode cX2_askNext 69 = .ok (.iload_n 2, 1) := by decide +kernel
theorem dX2_askNext_70 : decode cX2_askNext 70 = .ok (.iastore, 1) := by decide +kernel
theorem dX2_askNext_71 : decode cX2_askNext 71 = .ok (.return_, 1) := by decide +kernel
theorem dX2_groomLikesMore_0 : decode cX2_groomLikesMore 0 = .ok (.aload_n 0, 1) := by decide +kernel
theorem dX2_groomLikesMore_1 : decode cX2_groomLikesMore 1 = .ok (.getfield 20, 3) := by decide +kernel
theorem dX2_groomLikesMore_4 : decode cX2_groomLikesMore 4 = .ok (.aload_n 0, 1) := by decide +kernel
theorem dX2_groomLikesMore_5 : decode cX2_groomLikesMore 5 = .ok (.getfield 9, 3) := by decide +kernel
theorem dX2_groomLikesMore_8 : decode cX2_groomLikesMore 8 = .ok (.iload_n 1, 1) := by decide +kernel
theorem dX2_groomLikesMore_9 : decode cX2_groomLikesMore 9 = .ok (.iadd, 1) := by decide +kernel
theorem dX2_groomLikesMore_10 : decode cX2_groomLikesMore 10 = .ok (.aaload, 1) := by decide +kernel
theorem dX2_groomLikesMore_11 : decode cX2_groomLikesMore 11 = .ok (.iload_n 2, 1) := by decide +kernel
theorem dX2_groomLikesMore_12 : decode cX2_groomLikesMore 12 = .ok (.iaload, 1) := by decide +kernel
theorem dX2_groomLikesMore_13 : decode cX2_groomLikesMore 13 = .ok (.aload_n 0, 1) := by decide +kernel
theorem dX2_groomLikesMore_14 : decode cX2_groomLikesMore 14 = .ok (.getfield 20, 3) := by decide +kernel
theorem dX2_groomLikesMore_17 : decode cX2_groomLikesMore 17 = .ok (.aload_n 0, 1) := by decide +kernel
theorem dX2_groomLikesMore_18 : decode cX2_groomLikesMore 18 = .ok (.getfield 9, 3) := by decide +kernel
theorem dX2_groomLikesMore_21 : decode cX2_groomLikesMore 21 = .ok (.iload_n 1, 1) := by decide +kernel
theorem dX2_groomLikesMore_22 : decode cX2_groomLikesMore 22 = .ok (.iadd, 1) := by decide +kernel
theorem dX2_groomLikesMore_23 : decode cX2_groomLikesMore 23 = .ok (.aaload, 1) := by decide +kernel
theorem dX2_groomLikesMore_24 : decode cX2_groomLikesMore 24 = .ok (.iload_n 3, 1) := by decide +kernel
theorem dX2_groomLikesMore_25 : decode cX2_groomLikesMore 25 = .ok (.iaload, 1) := by decide +kernel
theorem dX2_groomLikesMore_26 : decode cX2_groomLikesMore 26 = .ok (.if_icmp .ge 7, 3) := by decide +kernel
theorem dX2_groomLikesMore_29 : decode cX2_groomLikesMore 29 = .ok (.iconst 1, 1) := by decide +kernel
theorem dX2_groomLikesMore_30 : decode cX2_groomLikesMore 30 = .ok (.goto 4, 3) := by decide +kernel
theorem dX2_groomLikesMore_33 : decode cX2_groomLikesMore 33 = .ok (.iconst 0, 1) := by decide +kernel
theorem dX2_groomLikesMore_34 : decode cX2_groomLikesMore 34 = .ok (.ireturn, 1) := by decide +kernel
theorem dX2_wouldLeave_0 : decode cX2_wouldLeave 0 = .ok (.aload_n 0, 1) := by decide +kernel
theorem dX2_wouldLeave_1 : decode cX2_wouldLeave 1 = .ok (.getfield 20, 3) := by decide +kernel
theorem dX2_wouldLeave_4 : decode cX2_wouldLeave 4 = .ok (.iload_n 1, 1) := by decide +kernel
theorem dX2_wouldLeave_5 : decode cX2_wouldLeave 5 = .ok (.aaload, 1) := by decide +kernel
theorem dX2_wouldLeave_6 : decode cX2_wouldLeave 6 = .ok (.iload_n 2, 1) := by decide +kernel
theorem dX2_wouldLeave_7 : decode cX2_wouldLeave 7 = .ok (.iaload, 1) := by decide +kernel
theorem dX2_wouldLeave_8 : decode cX2_wouldLeave 8 = .ok (.aload_n 0, 1) := by decide +kernel
theorem dX2_wouldLeave_9 : decode cX2_wouldLeave 9 = .ok (.getfield 20, 3) := by decide +kernel
theorem dX2_wouldLeave_12 : decode cX2_wouldLeave 12 = .ok (.iload_n 1, 1) := by decide +kernel
theorem dX2_wouldLeave_13 : decode cX2_wouldLeave 13 = .ok (.aaload, 1) := by decide +kernel
theorem dX2_wouldLeave_14 : decode cX2_wouldLeave 14 = .ok (.aload_n 0, 1) := by decide +kernel
theorem dX2_wouldLeave_15 : decode cX2_wouldLeave 15 = .ok (.getfield 23, 3) := by decide +kernel
theorem dX2_wouldLeave_18 : decode cX2_wouldLeave 18 = .ok (.iload_n 1, 1) := by decide +kernel
theorem dX2_wouldLeave_19 : decode cX2_wouldLeave 19 = .ok (.iaload, 1) := by decide +kernel
theorem dX2_wouldLeave_20 : decode cX2_wouldLeave 20 = .ok (.iaload, 1) := by decide +kernel
theorem dX2_wouldLeave_21 : decode cX2_wouldLeave 21 = .ok (.if_icmp .ge 22, 3) := by decide +kernel
theorem dX2_wouldLeave_24 : decode cX2_wouldLeave 24 = .ok (.aload_n 0, 1) := by decide +kernel
theorem dX2_wouldLeave_25 : decode cX2_wouldLeave 25 = .ok (.iload_n 2, 1) := by decide +kernel
theorem dX2_wouldLeave_26 : decode cX2_wouldLeave 26 = .ok (.iload_n 1, 1) := by decide +kernel
theorem dX2_wouldLeave_27 : decode cX2_wouldLeave 27 = .ok (.aload_n 0, 1) := by decide +kernel
theorem dX2_wouldLeave_28 : decode cX2_wouldLeave 28 = .ok (.getfield 27, 3) := by decide +kernel
theorem dX2_wouldLeave_31 : decode cX2_wouldLeave 31 = .ok (.iload_n 2, 1) := by decide +kernel
theorem dX2_wouldLeave_32 : decode cX2_wouldLeave 32 = .ok (.iaload, 1) := by decide +kernel
theorem dX2_wouldLeave_33 : decode cX2_wouldLeave 33 = .ok (.invokevirtual 55, 3) := by decide +kernel
theorem dX2_wouldLeave_36 : decode cX2_wouldLeave 36 = .ok (.ifCond .eq 7, 3) := by decide +kernel
theorem dX2_wouldLeave_39 : decode cX2_wouldLeave 39 = .ok (.iconst 1, 1) := by decide +kernel
theorem dX2_wouldLeave_40 : decode cX2_wouldLeave 40 = .ok (.goto 4, 3) := by decide +kernel
theorem dX2_wouldLeave_43 : decode cX2_wouldLeave 43 = .ok (.iconst 0, 1) := by decide +kernel
theorem dX2_wouldLeave_44 : decode cX2_wouldLeave 44 = .ok (.ireturn, 1) := by decide +kernel
theorem dX2_firstToLeave_0 : decode cX2_firstToLeave 0 = .ok (.iconst 0, 1) := by decide +kernel
theorem dX2_firstToLeave_1 : decode cX2_firstToLeave 1 = .ok (.istore_n 1, 1) := by decide +kernel
theorem dX2_firstToLeave_2 : decode cX2_firstToLeave 2 = .ok (.iload_n 1, 1) := by decide +kernel
theorem dX2_firstToLeave_3 : decode cX2_firstToLeave 3 = .ok (.aload_n 0, 1) := by decide +kernel
theorem dX2_firstToLeave_4 : decode cX2_firstToLeave 4 = .ok (.getfield 9, 3) := by decide +kernel
theorem dX2_firstToLeave_7 : decode cX2_firstToLeave 7 = .ok (.if_icmp .ge 41, 3) := by decide +kernel
theorem dX2_firstToLeave_10 : decode cX2_firstToLeave 10 = .ok (.iconst 0, 1) := by decide +kernel
theorem dX2_firstToLeave_11 : decode cX2_firstToLeave 11 = .ok (.istore_n 2, 1) := by decide +kernel
theorem dX2_firstToLeave_12 : decode cX2_firstToLeave 12 = .ok (.iload_n 2, 1) := by decide +kernel
theorem dX2_firstToLeave_13 : decode cX2_firstToLeave 13 = .ok (.aload_n 0, 1) := by decide +kernel
theorem dX2_firstToLeave_14 : decode cX2_firstToLeave 14 = .ok (.getfield 9, 3) := by decide +kernel
theorem dX2_firstToLeave_17 : decode cX2_firstToLeave 17 = .ok (.if_icmp .ge 25, 3) := by decide +kernel
theorem dX2_firstToLeave_20 : decode cX2_firstToLeave 20 = .ok (.aload_n 0, 1) := by decide +kernel
theorem dX2_firstToLeave_21 : decode cX2_firstToLeave 21 = .ok (.iload_n 1, 1) := by decide +kernel
theorem dX2_firstToLeave_22 : decode cX2_firstToLeave 22 = .ok (.iload_n 2, 1) := by decide +kernel
theorem dX2_firstToLeave_23 : decode cX2_firstToLeave 23 = .ok (.invokevirtual 58, 3) := by decide +kernel
theorem dX2_firstToLeave_26 : decode cX2_firstToLeave 26 = .ok (.ifCond .eq 10, 3) := by decide +kernel
theorem dX2_firstToLeave_29 : decode cX2_firstToLeave 29 = .ok (.bipush 10, 2) := by decide +kernel
theorem dX2_firstToLeave_31 : decode cX2_firstToLeave 31 = .ok (.iload_n 1, 1) := by decide +kernel
theorem dX2_firstToLeave_32 : decode cX2_firstToLeave 32 = .ok (.imul, 1) := by decide +kernel
theorem dX2_firstToLeave_33 : decode cX2_firstToLeave 33 = .ok (.iload_n 2, 1) := by decide +kernel
theorem dX2_firstToLeave_34 : decode cX2_firstToLeave 34 = .ok (.iadd, 1) := by decide +kernel
theorem dX2_firstToLeave_35 : decode cX2_firstToLeave 35 = .ok (.ireturn, 1) := by decide +kernel
theorem dX2_firstToLeave_36 : decode cX2_firstToLeave 36 = .ok (.iinc 2 1, 3) := by decide +kernel
theorem dX2_firstToLeave_39 : decode cX2_firstToLeave 39 = .ok (.goto (-27), 3) := by decide +kernel
theorem dX2_firstToLeave_42 : decode cX2_firstToLeave 42 = .ok (.iinc 1 1, 3) := by decide +kernel
theorem dX2_firstToLeave_45 : decode cX2_firstToLeave 45 = .ok (.goto (-43), 3) := by decide +kernel
theorem dX2_firstToLeave_48 : decode cX2_firstToLeave 48 = .ok (.bipush (-4), 2) := by decide +kernel
theorem dX2_firstToLeave_50 : decode cX2_firstToLeave 50 = .ok (.ireturn, 1) := by decide +kernel
theorem dX3_init_0 : decode cX3_init 0 = .ok (.aload_n 0, 1) := by decide +kernel
theorem dX3_init_1 : decode cX3_init 1 = .ok (.invokespecial 3, 3) := by decide +kernel
theorem dX3_init_4 : decode cX3_init 4 = .ok (.aload_n 0, 1) := by decide +kernel
theorem dX3_init_5 : decode cX3_init 5 = .ok (.bipush 100, 2) := by decide +kernel
theorem dX3_init_7 : decode cX3_init 7 = .ok (.newarray .int, 2) := by decide +kernel
theorem dX3_init_9 : decode cX3_init 9 = .ok (.putfield 9, 3) := by decide +kernel
theorem dX3_init_12 : decode cX3_init 12 = .ok (.aload_n 0, 1) := by decide +kernel
theorem dX3_init_13 : decode cX3_init 13 = .ok (.iconst 0, 1) := by decide +kernel
theorem dX3_init_14 : decode cX3_init 14 = .ok (.putfield 15, 3) := by decide +kernel
theorem dX3_init_17 : decode cX3_init 17 = .ok (.aload_n 0, 1) := by decide +kernel
theorem dX3_init_18 : decode cX3_init 18 = .ok (.iconst 0, 1) := by decide +kernel
theorem dX3_init_19 : decode cX3_init 19 = .ok (.putfield 19, 3) := by decide +kernel
theorem dX3_init_22 : decode cX3_init 22 = .ok (.aload_n 0, 1) := by decide +kernel
theorem dX3_init_23 : decode cX3_init 23 = .ok (.iconst 0, 1) := by decide +kernel
theorem dX3_init_24 : decode cX3_init 24 = .ok (.putfield 23, 3) := by decide +kernel
theorem dX3_init_27 : decode cX3_init 27 = .ok (.return_, 1) := by decide +kernel
theorem dX3_renew_0 : decode cX3_renew 0 = .ok (.aload_n 0, 1) := by decide +kernel
theorem dX3_renew_1 : decode cX3_renew 1 = .ok (.getfield 9, 3) := by decide +kernel
theorem dX3_renew_4 : decode cX3_renew 4 = .ok (.iconst 0, 1) := by decide +kernel
theorem dX3_renew_5 : decode cX3_renew 5 = .ok (.invokestatic 26, 3) := by decide +kernel
theorem dX3_renew_8 : decode cX3_renew 8 = .ok (.aload_n 0, 1) := by decide +kernel
theorem dX3_renew_9 : decode cX3_renew 9 = .ok (.iconst 1, 1) := by decide +kernel
theorem dX3_renew_10 : decode cX3_renew 10 = .ok (.putfield 15, 3) := by decide +kernel
theorem dX3_renew_13 : decode cX3_renew 13 = .ok (.aload_n 0, 1) := by decide +kernel
theorem dX3_renew_14 : decode cX3_renew 14 = .ok (.iload_n 1, 1) := by decide +kernel
theorem dX3_renew_15 : decode cX3_renew 15 = .ok (.putfield 19, 3) := by decide +kernel
theorem dX3_renew_18 : decode cX3_renew 18 = .ok (.aload_n 0, 1) := by decide +kernel
theorem dX3_renew_19 : decode cX3_renew 19 = .ok (.iload_n 2, 1) := by decide +kernel
theorem dX3_renew_20 : decode cX3_renew 20 = .ok (.putfield 23, 3) := by decide +kernel
theorem dX3_renew_23 : decode cX3_renew 23 = .ok (.return_, 1) := by decide +kernel
theorem dX3_refusal_0 : decode cX3_refusal 0 = .ok (.aload_n 0, 1) := by decide +kernel
theorem dX3_refusal_1 : decode cX3_refusal 1 = .ok (.getfield 15, 3) := by decide +kernel
theorem dX3_refusal_4 : decode cX3_refusal 4 = .ok (.ifCond .ne 6, 3) := by decide +kernel
theorem dX3_refusal_7 : decode cX3_refusal 7 = .ok (.bipush (-11), 2) := by decide +kernel
theorem dX3_refusal_9 : decode cX3_refusal 9 = .ok (.ireturn, 1) := by decide +kernel
theorem dX3_refusal_10 : decode cX3_refusal 10 = .ok (.aload_n 0, 1) := by decide +kernel
theorem dX3_refusal_11 : decode cX3_refusal 11 = .ok (.getfield 19, 3) := by decide +kernel
theorem dX3_refusal_14 : decode cX3_refusal 14 = .ok (.iload_n 1, 1) := by decide +kernel
theorem dX3_refusal_15 : decode cX3_refusal 15 = .ok (.if_icmp .eq 6, 3) := by decide +kernel
theorem dX3_refusal_18 : decode cX3_refusal 18 = .ok (.bipush (-12), 2) := by decide +kernel
theorem dX3_refusal_20 : decode cX3_refusal 20 = .ok (.ireturn, 1) := by decide +kernel
theorem dX3_refusal_21 : decode cX3_refusal 21 = .ok (.iload_n 2, 1) := by decide +kernel
theorem dX3_refusal_22 : decode cX3_refusal 22 = .ok (.ifCond .lt 17, 3) := by decide +kernel
theorem dX3_refusal_25 : decode cX3_refusal 25 = .ok (.iload_n 3, 1) := by decide +kernel
theorem dX3_refusal_26 : decode cX3_refusal 26 = .ok (.ifCond .lt 13, 3) := by decide +kernel
theorem dX3_refusal_29 : decode cX3_refusal 29 = .ok (.iload_n 2, 1) := by decide +kernel
theorem dX3_refusal_30 : decode cX3_refusal 30 = .ok (.aload_n 0, 1) := by decide +kernel
theorem dX3_refusal_31 : decode cX3_refusal 31 = .ok (.getfield 23, 3) := by decide +kernel
theorem dX3_refusal_34 : decode cX3_refusal 34 = .ok (.iload_n 3, 1) := by decide +kernel
theorem dX3_refusal_35 : decode cX3_refusal 35 = .ok (.isub, 1) := by decide +kernel
theorem dX3_refusal_36 : decode cX3_refusal 36 = .ok (.if_icmp .le 8, 3) := by decide +kernel
theorem dX3_refusal_39 : decode cX3_refusal 39 = .ok (.bipush (-13), 2) := by decide +kernel
theorem dX3_refusal_41 : decode cX3_refusal 41 = .ok (.goto 4, 3) := by decide +kernel
theorem dX3_refusal_44 : decode cX3_refusal 44 = .ok (.iconst 0, 1) := by decide +kernel
theorem dX3_refusal_45 : decode cX3_refusal 45 = .ok (.ireturn, 1) := by decide +kernel
theorem dX3_cut_0 : decode cX3_cut 0 = .ok (.iload_n 0, 1) := by decide +kernel
theorem dX3_cut_1 : decode cX3_cut 1 = .ok (.ifCond .ne 6, 3) := by decide +kernel
theorem dX3_cut_4 : decode cX3_cut 4 = .ok (.iload_n 1, 1) := by decide +kernel
theorem dX3_cut_5 : decode cX3_cut 5 = .ok (.i2b, 1) := by decide +kernel
theorem dX3_cut_6 : decode cX3_cut 6 = .ok (.ireturn, 1) := by decide +kernel
theorem dX3_cut_7 : decode cX3_cut 7 = .ok (.iload_n 0, 1) := by decide +kernel
theorem dX3_cut_8 : decode cX3_cut 8 = .ok (.iconst 1, 1) := by decide +kernel
theorem dX3_cut_9 : decode cX3_cut 9 = .ok (.if_icmp .ne 8, 3) := by decide +kernel
theorem dX3_cut_12 : decode cX3_cut 12 = .ok (.iload_n 1, 1) := by decide +kernel
theorem dX3_cut_13 : decode cX3_cut 13 = .ok (.i2s, 1) := by decide +kernel
theorem dX3_cut_14 : decode cX3_cut 14 = .ok (.goto 4, 3) := by decide +kernel
theorem dX3_cut_17 : decode cX3_cut 17 = .ok (.iload_n 1, 1) := by decide +kernel
theorem dX3_cut_18 : decode cX3_cut 18 = .ok (.ireturn, 1) := by decide +kernel
theorem dX4_init_0 : decode cX4_init 0 = .ok (.aload_n 0, 1) := by decide +kernel
theorem dX4_init_1 : decode cX4_init 1 = .ok (.invokespecial 3, 3) := by decide +kernel
theorem dX4_init_4 : decode cX4_init 4 = .ok (.aload_n 0, 1) := by decide +kernel
theorem dX4_init_5 : decode cX4_init 5 = .ok (.bipush 120, 2) := by decide +kernel
theorem dX4_init_7 : decode cX4_init 7 = .ok (.newarray .int, 2) := by decide +kernel
theorem dX4_init_9 : decode cX4_init 9 = .ok (.putfield 9, 3) := by decide +kernel
theorem dX4_init_12 : decode cX4_init 12 = .ok (.aload_n 0, 1) := by decide +kernel
theorem dX4_init_13 : decode cX4_init 13 = .ok (.bipush 16, 2) := by decide +kernel
theorem dX4_init_15 : decode cX4_init 15 = .ok (.iconst 4, 1) := by decide +kernel
theorem dX4_init_16 : decode cX4_init 16 = .ok (.multianewarray 15 2, 4) := by decide +kernel
theorem dX4_init_20 : decode cX4_init 20 = .ok (.putfield 17, 3) := by decide +kernel
theorem dX4_init_23 : decode cX4_init 23 = .ok (.aload_n 0, 1) := by decide +kernel
theorem dX4_init_24 : decode cX4_init 24 = .ok (.iconst 0, 1) := by decide +kernel
theorem dX4_init_25 : decode cX4_init 25 = .ok (.putfield 20, 3) := by decide +kernel
theorem dX4_init_28 : decode cX4_init 28 = .ok (.aload_n 0, 1) := by decide +kernel
theorem dX4_init_29 : decode cX4_init 29 = .ok (.iconst 0, 1) := by decide +kernel
theorem dX4_init_30 : decode cX4_init 30 = .ok (.putfield 24, 3) := by decide +kernel
theorem dX4_init_33 : decode cX4_init 33 = .ok (.return_, 1) := by decide +kernel
theorem dX4_isTypable_0 : decode cX4_isTypable 0 = .ok (.iconst 0, 1) := by decide +kernel
theorem dX4_isTypable_1 : decode cX4_isTypable 1 = .ok (.istore_n 3, 1) := by decide +kernel
theorem dX4_isTypable_2 : decode cX4_isTypable 2 = .ok (.iload_n 3, 1) := by decide +kernel
theorem dX4_isTypable_3 : decode cX4_isTypable 3 = .ok (.iload_n 2, 1) := by decide +kernel
theorem dX4_isTypable_4 : decode cX4_isTypable 4 = .ok (.if_icmp .ge 32, 3) := by decide +kernel
theorem dX4_isTypable_7 : decode cX4_isTypable 7 = .ok (.lload_n 0, 1) := by decide +kernel
theorem dX4_isTypable_8 : decode cX4_isTypable 8 = .ok (.bipush 8, 2) := by decide +kernel
theorem dX4_isTypable_10 : decode cX4_isTypable 10 = .ok (.iload_n 3, 1) := by decide +kernel
theorem dX4_isTypable_11 : decode cX4_isTypable 11 = .ok (.imul, 1) := by decide +kernel
theorem dX4_isTypable_12 : decode cX4_isTypable 12 = .ok (.lushr, 1) := by decide +kernel
theorem dX4_isTypable_13 : decode cX4_isTypable 13 = .ok (.l2i, 1) := by decide +kernel
theorem dX4_isTypable_14 : decode cX4_isTypable 14 = .ok (.sipush 255, 3) := by decide +kernel
theorem dX4_isTypable_17 : decode cX4_isTypable 17 = .ok (.iand, 1) := by decide +kernel
theorem dX4_isTypable_18 : decode cX4_isTypable 18 = .ok (.bipush 32, 2) := by decide +kernel
theorem dX4_isTypable_20 : decode cX4_isTypable 20 = .ok (.bipush 126, 2) := by decide +kernel
theorem dX4_isTypable_22 : decode cX4_isTypable 22 = .ok (.invokestatic 27, 3) := by decide +kernel
theorem dX4_isTypable_25 : decode cX4_isTypable 25 = .ok (.ifCond .ne 5, 3) := by decide +kernel
theorem dX4_isTypable_28 : decode cX4_isTypable 28 = .ok (.iconst 0, 1) := by decide +kernel
theorem dX4_isTypable_29 : decode cX4_isTypable 29 = .ok (.ireturn, 1) := by decide +kernel
theorem dX4_isTypable_30 : decode cX4_isTypable 30 = .ok (.iinc 3 1, 3) := by decide +kernel
theorem dX4_isTypable_33 : decode cX4_isTypable 33 = .ok (.goto (-31), 3) := by decide +kernel
theorem dX4_isTypable_36 : decode cX4_isTypable 36 = .ok (.iconst 1, 1) := by decide +kernel
theorem dX4_isTypable_37 : decode cX4_isTypable 37 = .ok (.ireturn, 1) := by decide +kernel
theorem dX4_append_0 : decode cX4_append 0 = .ok (.iload_n 3, 1) := by decide +kernel
theorem dX4_append_1 : decode cX4_append 1 = .ok (.iconst 1, 1) := by decide +kernel
theorem dX4_append_2 : decode cX4_append 2 = .ok (.isub, 1) := by decide +kernel
theorem dX4_append_3 : decode cX4_append 3 = .ok (.istore 4, 2) := by decide +kernel
theorem dX4_append_5 : decode cX4_append 5 = .ok (.iload 4, 2) := by decide +kernel
theorem dX4_append_7 : decode cX4_append 7 = .ok (.ifCond .lt 40, 3) := by decide +kernel
theorem dX4_append_10 : decode cX4_append 10 = .ok (.aload_n 0, 1) := by decide +kernel
theorem dX4_append_11 : decode cX4_append 11 = .ok (.getfield 9, 3) := by decide +kernel
theorem dX4_append_14 : decode cX4_append 14 = .ok (.aload_n 0, 1) := by decide +kernel
theorem dX4_append_15 : decode cX4_append 15 = .ok (.getfield 20, 3) := by decide +kernel
theorem dX4_append_18 : decode cX4_append 18 = .ok (.lload_n 1, 1) := by decide +kernel
theorem dX4_append_19 : decode cX4_append 19 = .ok (.bipush 8, 2) := by decide +kernel
theorem dX4_append_21 : decode cX4_append 21 = .ok (.iload 4, 2) := by decide +kernel
theorem dX4_append_23 : decode cX4_append 23 = .ok (.imul, 1) := by decide +kernel
theorem dX4_append_24 : decode cX4_append 24 = .ok (.lushr, 1) := by decide +kernel
theorem dX4_append_25 : decode cX4_append 25 = .ok (.l2i, 1) := by decide +kernel
theorem dX4_append_26 : decode cX4_append 26 = .ok (.sipush 255, 3) := by decide +kernel
theorem dX4_append_29 : decode cX4_append 29 = .ok (.iand, 1) := by decide +kernel
theorem dX4_append_30 : decode cX4_append 30 = .ok (.iastore, 1) := by decide +kernel
theorem dX4_append_31 : decode cX4_append 31 = .ok (.aload_n 0, 1) := by decide +kernel
theorem dX4_append_32 : decode cX4_append 32 = .ok (.dup, 1) := by decide +kernel
theorem dX4_append_33 : decode cX4_append 33 = .ok (.getfield 20, 3) := by decide +kernel
theorem dX4_append_36 : decode cX4_append 36 = .ok (.iconst 1, 1) := by decide +kernel
theorem dX4_append_37 : decode cX4_append 37 = .ok (.iadd, 1) := by decide +kernel
theorem dX4_append_38 : decode cX4_append 38 = .ok (.putfield 20, 3) := by decide +kernel
theorem dX4_append_41 : decode cX4_append 41 = .ok (.iinc 4 (-1), 3) := by decide +kernel
theorem dX4_append_44 : decode cX4_append 44 = .ok (.goto (-39), 3) := by decide +kernel
theorem dX4_append_47 : decode cX4_append 47 = .ok (.return_, 1) := by decide +kernel
theorem dX4_readBrides_0 : decode cX4_readBrides 0 = .ok (.aload_n 0, 1) := by decide +kernel
theorem dX4_readBrides_1 : decode cX4_readBrides 1 = .ok (.iconst 0, 1) := by decide +kernel
theorem dX4_readBrides_2 : decode cX4_readBrides 2 = .ok (.bipush 7, 2) := by decide +kernel
theorem dX4_readBrides_4 : decode cX4_readBrides 4 = .ok (.invokevirtual 31, 3) := by decide +kernel
theorem dX4_readBrides_7 : decode cX4_readBrides 7 = .ok (.ireturn, 1) := by decide +kernel
theorem dX4_readHeap_0 : decode cX4_readHeap 0 = .ok (.aload_n 0, 1) := by decide +kernel
theorem dX4_readHeap_1 : decode cX4_readHeap 1 = .ok (.iconst 1, 1) := by decide +kernel
theorem dX4_readHeap_2 : decode cX4_readHeap 2 = .ok (.bipush 16, 2) := by decide +kernel
theorem dX4_readHeap_4 : decode cX4_readHeap 4 = .ok (.invokevirtual 31, 3) := by decide +kernel
theorem dX4_readHeap_7 : decode cX4_readHeap 7 = .ok (.ireturn, 1) := by decide +kernel
theorem dX4_read_0 : decode cX4_read 0 = .ok (.aload_n 0, 1) := by decide +kernel
theorem dX4_read_1 : decode cX4_read 1 = .ok (.iconst 0, 1) := by decide +kernel
theorem dX4_read_2 : decode cX4_read 2 = .ok (.putfield 24, 3) := by decide +kernel
theorem dX4_read_5 : decode cX4_read 5 = .ok (.iconst 0, 1) := by decide +kernel
theorem dX4_read_6 : decode cX4_read 6 = .ok (.istore_n 3, 1) := by decide +kernel
theorem dX4_read_7 : decode cX4_read 7 = .ok (.iload_n 3, 1) := by decide +kernel
theorem dX4_read_8 : decode cX4_read 8 = .ok (.iload_n 2, 1) := by decide +kernel
theorem dX4_read_9 : decode cX4_read 9 = .ok (.if_icmp .ge 78, 3) := by decide +kernel
theorem dX4_read_12 : decode cX4_read 12 = .ok (.iload_n 1, 1) := by decide +kernel
theorem dX4_read_13 : decode cX4_read 13 = .ok (.ifCond .eq 16, 3) := by decide +kernel
theorem dX4_read_16 : decode cX4_read 16 = .ok (.aload_n 0, 1) := by decide +kernel
theorem dX4_read_17 : decode cX4_read 17 = .ok (.aload_n 0, 1) := by decide +kernel
theorem dX4_read_18 : decode cX4_read 18 = .ok (.getfield 17, 3) := by decide +kernel
theorem dX4_read_21 : decode cX4_read 21 = .ok (.iload_n 3, 1) := by decide +kernel
theorem dX4_read_22 : decode cX4_read 22 = .ok (.aaload, 1) := by decide +kernel
theorem dX4_read_23 : decode cX4_read 23 = .ok (.invokevirtual 35, 3) := by decide +kernel
theorem dX4_read_26 : decode cX4_read 26 = .ok (.goto 13, 3) := by decide +kernel
theorem dX4_read_29 : decode cX4_read 29 = .ok (.aload_n 0, 1) := by decide +kernel
theorem dX4_read_30 : decode cX4_read 30 = .ok (.aload_n 0, 1) := by decide +kernel
theorem dX4_read_31 : decode cX4_read 31 = .ok (.getfield 17, 3) := by decide +kernel
theorem dX4_read_34 : decode cX4_read 34 = .ok (.iload_n 3, 1) := by decide +kernel
theorem dX4_read_35 : decode cX4_read 35 = .ok (.aaload, 1) := by decide +kernel
theorem dX4_read_36 : decode cX4_read 36 = .ok (.invokevirtual 39, 3) := by decide +kernel
theorem dX4_read_39 : decode cX4_read 39 = .ok (.istore 4, 2) := by decide +kernel
theorem dX4_read_41 : decode cX4_read 41 = .ok (.iload 4, 2) := by decide +kernel
theorem dX4_read_43 : decode cX4_read 43 = .ok (.ifCond .eq 14, 3) := by decide +kernel
theorem dX4_read_46 : decode cX4_read 46 = .ok (.aload_n 0, 1) := by decide +kernel
theorem dX4_read_47 : decode cX4_read 47 = .ok (.invokevirtual 42, 3) := by decide +kernel
theorem dX4_read_50 : decode cX4_read 50 = .ok (.ifCond .ne 7, 3) := by decide +kernel
theorem dX4_read_53 : decode cX4_read 53 = .ok (.iload_n 3, 1) := by decide +kernel
theorem dX4_read_54 : decode cX4_read 54 = .ok (.iconst 1, 1) := by decide +kernel
theorem dX4_read_55 : decode cX4_read 55 = .ok (.iadd, 1) := by decide +kernel
theorem dX4_read_56 : decode cX4_read 56 = .ok (.ireturn, 1) := by decide +kernel
theorem dX4_read_57 : decode cX4_read 57 = .ok (.iload 4, 2) := by decide +kernel
theorem dX4_read_59 : decode cX4_read 59 = .ok (.ifCond .eq 28, 3) := by decide +kernel
theorem dX4_read_62 : decode cX4_read 62 = .ok (.iload_n 3, 1) := by decide +kernel
theorem dX4_read_63 : decode cX4_read 63 = .ok (.iload_n 2, 1) := by decide +kernel
theorem dX4_read_64 : decode cX4_read 64 = .ok (.iconst 1, 1) := by decide +kernel
theorem dX4_read_65 : decode cX4_read 65 = .ok (.isub, 1) := by decide +kernel
theorem dX4_read_66 : decode cX4_read 66 = .ok (.if_icmp .eq 21, 3) := by decide +kernel
theorem dX4_read_69 : decode cX4_read 69 = .ok (.aload_n 0, 1) := by decide +kernel
theorem dX4_read_70 : decode cX4_read 70 = .ok (.bipush 44, 2) := by decide +kernel
theorem dX4_read_72 : decode cX4_read 72 = .ok (.invokevirtual 46, 3) := by decide +kernel
theorem dX4_read_75 : decode cX4_read 75 = .ok (.ifCond .ne 6, 3) := by decide +kernel
theorem dX4_read_78 : decode cX4_read 78 = .ok (.goto 9, 3) := by decide +kernel
theorem dX4_read_81 : decode cX4_read 81 = .ok (.iinc 3 1, 3) := by decide +kernel
theorem dX4_read_84 : decode cX4_read 84 = .ok (.goto (-77), 3) := by decide +kernel
theorem dX4_read_87 : decode cX4_read 87 = .ok (.bipush (-20), 2) := by decide +kernel
theorem dX4_read_89 : decode cX4_read 89 = .ok (.aload_n 0, 1) := by decide +kernel
theorem dX4_read_90 : decode cX4_read 90 = .ok (.getfield 24, 3) := by decide +kernel
theorem dX4_read_93 : decode cX4_read 93 = .ok (.isub, 1) := by decide +kernel
theorem dX4_read_94 : decode cX4_read 94 = .ok (.ireturn, 1) := by decide +kernel
theorem dX4_readBride_0 : decode cX4_readBride 0 = .ok (.aload_n 1, 1) := by decide +kernel
theorem dX4_readBride_1 : decode cX4_readBride 1 = .ok (.iconst 2, 1) := by decide +kernel
theorem dX4_readBride_2 : decode cX4_readBride 2 = .ok (.iconst 0, 1) := by decide +kernel
theorem dX4_readBride_3 : decode cX4_readBride 3 = .ok (.iastore, 1) := by decide +kernel
theorem dX4_readBride_4 : decode cX4_readBride 4 = .ok (.aload_n 1, 1) := by decide +kernel
theorem dX4_readBride_5 : decode cX4_readBride 5 = .ok (.iconst 3, 1) := by decide +kernel
theorem dX4_readBride_6 : decode cX4_readBride 6 = .ok (.iconst 0, 1) := by decide +kernel
theorem dX4_readBride_7 : decode cX4_readBride 7 = .ok (.iastore, 1) := by decide +kernel
theorem dX4_readBride_8 : decode cX4_readBride 8 = .ok (.aload_n 0, 1) := by decide +kernel
theorem dX4_readBride_9 : decode cX4_readBride 9 = .ok (.aload_n 1, 1) := by decide +kernel
theorem dX4_readBride_10 : decode cX4_readBride 10 = .ok (.iconst 0, 1) := by decide +kernel
theorem dX4_readBride_11 : decode cX4_readBride 11 = .ok (.getstatic 50, 3) := by decide +kernel
theorem dX4_readBride_14 : decode cX4_readBride 14 = .ok (.iconst 0, 1) := by decide +kernel
theorem dX4_readBride_15 : decode cX4_readBride 15 = .ok (.iaload, 1) := by decide +kernel
theorem dX4_readBride_16 : decode cX4_readBride 16 = .ok (.getstatic 53, 3) := by decide +kernel
theorem dX4_readBride_19 : decode cX4_readBride 19 = .ok (.iconst 0, 1) := by decide +kernel
theorem dX4_readBride_20 : decode cX4_readBride 20 = .ok (.iaload, 1) := by decide +kernel
theorem dX4_readBride_21 : decode cX4_readBride 21 = .ok (.invokevirtual 56, 3) := by decide +kernel
theorem dX4_readBride_24 : decode cX4_readBride 24 = .ok (.ifCond .eq 12, 3) := by decide +kernel
theorem dX4_readBride_27 : decode cX4_readBride 27 = .ok (.aload_n 0, 1) := by decide +kernel
theorem dX4_readBride_28 : decode cX4_readBride 28 = .ok (.bipush 47, 2) := by decide +kernel
theorem dX4_readBride_30 : decode cX4_readBride 30 = .ok (.invokevirtual 46, 3) := by decide +kernel
theorem dX4_readBride_33 : decode cX4_readBride 33 = .ok (.ifCond .ne 5, 3) := by decide +kernel
theorem dX4_readBride_36 : decode cX4_readBride 36 = .ok (.iconst 0, 1) := by decide +kernel
theorem dX4_readBride_37 : decode cX4_readBride 37 = .ok (.ireturn, 1) := by decide +kernel
theorem dX4_readBride_38 : decode cX4_readBride 38 = .ok (.aload_n 0, 1) := by decide +kernel
theorem dX4_readBride_39 : decode cX4_readBride 39 = .ok (.aload_n 1, 1) := by decide +kernel
theorem dX4_readBride_40 : decode cX4_readBride 40 = .ok (.iconst 1, 1) := by decide +kernel
theorem dX4_readBride_41 : decode cX4_readBride 41 = .ok (.getstatic 50, 3) := by decide +kernel
theorem dX4_readBride_44 : decode cX4_readBride 44 = .ok (.iconst 1, 1) := by decide +kernel
theorem dX4_readBride_45 : decode cX4_readBride 45 = .ok (.iaload, 1) := by decide +kernel
theorem dX4_readBride_46 : decode cX4_readBride 46 = .ok (.getstatic 53, 3) := by decide +kernel
theorem dX4_readBride_49 : decode cX4_readBride 49 = .ok (.iconst 1, 1) := by decide +kernel
theorem dX4_readBride_50 : decode cX4_readBride 50 = .ok (.iaload, 1) := by decide +kernel
theorem dX4_readBride_51 : decode cX4_readBride 51 = .ok (.invokevirtual 56, 3) := by decide +kernel
theorem dX4_readBride_54 : decode cX4_readBride 54 = .ok (.ifCond .ne 5, 3) := by decide +kernel
theorem dX4_readBride_57 : decode cX4_readBride 57 = .ok (.iconst 0, 1) := by decide +kernel
theorem dX4_readBride_58 : decode cX4_readBride 58 = .ok (.ireturn, 1) := by decide +kernel
theorem dX4_readBride_59 : decode cX4_readBride 59 = .ok (.aload_n 0, 1) := by decide +kernel
theorem dX4_readBride_60 : decode cX4_readBride 60 = .ok (.bipush 115, 2) := by decide +kernel
theorem dX4_readBride_62 : decode cX4_readBride 62 = .ok (.invokevirtual 46, 3) := by decide +kernel
theorem dX4_readBride_65 : decode cX4_readBride 65 = .ok (.ifCond .eq 13, 3) := by decide +kernel
theorem dX4_readBride_68 : decode cX4_readBride 68 = .ok (.aload_n 0, 1) := by decide +kernel
theorem dX4_readBride_69 : decode cX4_readBride 69 = .ok (.aload_n 1, 1) := by decide +kernel
theorem dX4_readBride_70 : decode cX4_readBride 70 = .ok (.invokevirtual 60, 3) := by decide +kernel
theorem dX4_readBride_73 : decode cX4_readBride 73 = .ok (.ifCond .ne 5, 3) := by decide +kernel
theorem dX4_readBride_76 : decode cX4_readBride 76 = .ok (.iconst 0, 1) := by decide +kernel
theorem dX4_readBride_77 : decode cX4_readBride 77 = .ok (.ireturn, 1) := by decide +kernel
theorem dX4_readBride_78 : decode cX4_readBride 78 = .ok (.aload_n 0, 1) := by decide +kernel
theorem dX4_readBride_79 : decode cX4_readBride 79 = .ok (.bipush 104, 2) := by decide +kernel
theorem dX4_readBride_81 : decode cX4_readBride 81 = .ok (.invokevirtual 46, 3) := by decide +kernel
theorem dX4_readBride_84 : decode cX4_readBride 84 = .ok (.ifCond .eq 22, 3) := by decide +kernel
theorem dX4_readBride_87 : decode cX4_readBride 87 = .ok (.aload_n 0, 1) := by decide +kernel
theorem dX4_readBride_88 : decode cX4_readBride 88 = .ok (.aload_n 1, 1) := by decide +kernel
theorem dX4_readBride_89 : decode cX4_readBride 89 = .ok (.iconst 3, 1) := by decide +kernel
theorem dX4_readBride_90 : decode cX4_readBride 90 = .ok (.getstatic 50, 3) := by decide +kernel
theorem dX4_readBride_93 : decode cX4_readBride 93 = .ok (.iconst 3, 1) := by decide +kernel
theorem dX4_readBride_94 : decode cX4_readBride 94 = .ok (.iaload, 1) := by decide +kernel
theorem dX4_readBride_95 : decode cX4_readBride 95 = .ok (.getstatic 53, 3) := by decide +kernel
theorem dX4_readBride_98 : decode cX4_readBride 98 = .ok (.iconst 3, 1) := by decide +kernel
theorem dX4_readBride_99 : decode cX4_readBride 99 = .ok (.iaload, 1) := by decide +kernel
theorem dX4_readBride_100 : decode cX4_readBride 100 = .ok (.invokevirtual 56, 3) := by decide +kernel
theorem dX4_readBride_103 : decode cX4_readBride 103 = .ok (.ifCond .eq 7, 3) := by decide +kernel
theorem dX4_readBride_106 : decode cX4_readBride 106 = .ok (.iconst 1, 1) := by decide +kernel
theorem dX4_readBride_107 : decode cX4_readBride 107 = .ok (.goto 4, 3) := by decide +kernel
theorem dX4_readBride_110 : decode cX4_readBride 110 = .ok (.iconst 0, 1) := by decide +kernel
theorem dX4_readBride_111 : decode cX4_readBride 111 = .ok (.ireturn, 1) := by decide +kernel
theorem dX4_readSwell_0 : decode cX4_readSwell 0 = .ok (.aload_n 0, 1) := by decide +kernel
theorem dX4_readSwell_1 : decode cX4_readSwell 1 = .ok (.invokevirtual 42, 3) := by decide +kernel
theorem dX4_readSwell_4 : decode cX4_readSwell 4 = .ok (.bipush 48, 2) := by decide +kernel
theorem dX4_readSwell_6 : decode cX4_readSwell 6 = .ok (.isub, 1) := by decide +kernel
theorem dX4_readSwell_7 : decode cX4_readSwell 7 = .ok (.istore_n 2, 1) := by decide +kernel
theorem dX4_readSwell_8 : decode cX4_readSwell 8 = .ok (.iconst 2, 1) := by decide +kernel
theorem dX4_readSwell_9 : decode cX4_readSwell 9 = .ok (.iload_n 2, 1) := by decide +kernel
theorem dX4_readSwell_10 : decode cX4_readSwell 10 = .ok (.invokestatic 63, 3) := by decide +kernel
theorem dX4_readSwell_13 : decode cX4_readSwell 13 = .ok (.ifCond .ne 5, 3) := by decide +kernel
theorem dX4_readSwell_16 : decode cX4_readSwell 16 = .ok (.iconst 0, 1) := by decide +kernel
theorem dX4_readSwell_17 : decode cX4_readSwell 17 = .ok (.ireturn, 1) := by decide +kernel
theorem dX4_readSwell_18 : decode cX4_readSwell 18 = .ok (.aload_n 1, 1) := by decide +kernel
theorem dX4_readSwell_19 : decode cX4_readSwell 19 = .ok (.iconst 2, 1) := by decide +kernel
theorem dX4_readSwell_20 : decode cX4_readSwell 20 = .ok (.iload_n 2, 1) := by decide +kernel
theorem dX4_readSwell_21 : decode cX4_readSwell 21 = .ok (.iastore, 1) := by decide +kernel
theorem dX4_readSwell_22 : decode cX4_readSwell 22 = .ok (.aload_n 0, 1) := by decide +kernel
theorem dX4_readSwell_23 : decode cX4_readSwell 23 = .ok (.dup, 1) := by decide +kernel
theorem dX4_readSwell_24 : decode cX4_readSwell 24 = .ok (.getfield 24, 3) := by decide +kernel
theorem dX4_readSwell_27 : decode cX4_readSwell 27 = .ok (.iconst 1, 1) := by decide +kernel
theorem dX4_readSwell_28 : decode cX4_readSwell 28 = .ok (.iadd, 1) := by decide +kernel
theorem dX4_readSwell_29 : decode cX4_readSwell 29 = .ok (.putfield 24, 3) := by decide +kernel
theorem dX4_readSwell_32 : decode cX4_readSwell 32 = .ok (.iconst 1, 1) := by decide +kernel
theorem dX4_readSwell_33 : decode cX4_readSwell 33 = .ok (.ireturn, 1) := by decide +kernel
theorem dX4_readShoe_0 : decode cX4_readShoe 0 = .ok (.aload_n 1, 1) := by decide +kernel
theorem dX4_readShoe_1 : decode cX4_readShoe 1 = .ok (.iconst 2, 1) := by decide +kernel
theorem dX4_readShoe_2 : decode cX4_readShoe 2 = .ok (.iconst 0, 1) := by decide +kernel
theorem dX4_readShoe_3 : decode cX4_readShoe 3 = .ok (.iastore, 1) := by decide +kernel
theorem dX4_readShoe_4 : decode cX4_readShoe 4 = .ok (.aload_n 1, 1) := by decide +kernel
theorem dX4_readShoe_5 : decode cX4_readShoe 5 = .ok (.iconst 3, 1) := by decide +kernel
theorem dX4_readShoe_6 : decode cX4_readShoe 6 = .ok (.iconst 0, 1) := by decide +kernel
theorem dX4_readShoe_7 : decode cX4_readShoe 7 = .ok (.iastore, 1) := by decide +kernel
theorem dX4_readShoe_8 : decode cX4_readShoe 8 = .ok (.aload_n 1, 1) := by decide +kernel
theorem dX4_readShoe_9 : decode cX4_readShoe 9 = .ok (.iconst 0, 1) := by decide +kernel
theorem dX4_readShoe_10 : decode cX4_readShoe 10 = .ok (.aload_n 0, 1) := by decide +kernel
theorem dX4_readShoe_11 : decode cX4_readShoe 11 = .ok (.invokevirtual 42, 3) := by decide +kernel
theorem dX4_readShoe_14 : decode cX4_readShoe 14 = .ok (.bipush 108, 2) := by decide +kernel
theorem dX4_readShoe_16 : decode cX4_readShoe 16 = .ok (.if_icmp .ne 7, 3) := by decide +kernel
theorem dX4_readShoe_19 : decode cX4_readShoe 19 = .ok (.iconst 0, 1) := by decide +kernel
theorem dX4_readShoe_20 : decode cX4_readShoe 20 = .ok (.goto 4, 3) := by decide +kernel
theorem dX4_readShoe_23 : decode cX4_readShoe 23 = .ok (.iconst 1, 1) := by decide +kernel
theorem dX4_readShoe_24 : decode cX4_readShoe 24 = .ok (.iastore, 1) := by decide +kernel
theorem dX4_readShoe_25 : decode cX4_readShoe 25 = .ok (.aload_n 0, 1) := by decide +kernel
theorem dX4_readShoe_26 : decode cX4_readShoe 26 = .ok (.bipush 108, 2) := by decide +kernel
theorem dX4_readShoe_28 : decode cX4_readShoe 28 = .ok (.invokevirtual 46, 3) := by decide +kernel
theorem dX4_readShoe_31 : decode cX4_readShoe 31 = .ok (.ifCond .ne 14, 3) := by decide +kernel
theorem dX4_readShoe_34 : decode cX4_readShoe 34 = .ok (.aload_n 0, 1) := by decide +kernel
theorem dX4_readShoe_35 : decode cX4_readShoe 35 = .ok (.bipush 114, 2) := by decide +kernel
theorem dX4_readShoe_37 : decode cX4_readShoe 37 = .ok (.invokevirtual 46, 3) := by decide +kernel
theorem dX4_readShoe_40 : decode cX4_readShoe 40 = .ok (.ifCond .ne 5, 3) := by decide +kernel
theorem dX4_readShoe_43 : decode cX4_readShoe 43 = .ok (.iconst 0, 1) := by decide +kernel
theorem dX4_readShoe_44 : decode cX4_readShoe 44 = .ok (.ireturn, 1) := by decide +kernel
theorem dX4_readShoe_45 : decode cX4_readShoe 45 = .ok (.aload_n 0, 1) := by decide +kernel
theorem dX4_readShoe_46 : decode cX4_readShoe 46 = .ok (.aload_n 1, 1) := by decide +kernel
theorem dX4_readShoe_47 : decode cX4_readShoe 47 = .ok (.iconst 1, 1) := by decide +kernel
theorem dX4_readShoe_48 : decode cX4_readShoe 48 = .ok (.getstatic 67, 3) := by decide +kernel
theorem dX4_readShoe_51 : decode cX4_readShoe 51 = .ok (.iconst 1, 1) := by decide +kernel
theorem dX4_readShoe_52 : decode cX4_readShoe 52 = .ok (.iaload, 1) := by decide +kernel
theorem dX4_readShoe_53 : decode cX4_readShoe 53 = .ok (.getstatic 70, 3) := by decide +kernel
theorem dX4_readShoe_56 : decode cX4_readShoe 56 = .ok (.iconst 1, 1) := by decide +kernel
theorem dX4_readShoe_57 : decode cX4_readShoe 57 = .ok (.iaload, 1) := by decide +kernel
theorem dX4_readShoe_58 : decode cX4_readShoe 58 = .ok (.invokevirtual 56, 3) := by decide +kernel
theorem dX4_readShoe_61 : decode cX4_readShoe 61 = .ok (.ifCond .ne 5, 3) := by decide +kernel
theorem dX4_readShoe_64 : decode cX4_readShoe 64 = .ok (.iconst 0, 1) := by decide +kernel
theorem dX4_readShoe_65 : decode cX4_readShoe 65 = .ok (.ireturn, 1) := by decide +kernel
theorem dX4_readShoe_66 : decode cX4_readShoe 66 = .ok (.aload_n 0, 1) := by decide +kernel
theorem dX4_readShoe_67 : decode cX4_readShoe 67 = .ok (.bipush 103, 2) := by decide +kernel
theorem dX4_readShoe_69 : decode cX4_readShoe 69 = .ok (.invokevirtual 46, 3) := by decide +kernel
theorem dX4_readShoe_72 : decode cX4_readShoe 72 = .ok (.ifCond .eq 10, 3) := by decide +kernel
theorem dX4_readShoe_75 : decode cX4_readShoe 75 = .ok (.aload_n 1, 1) := by decide +kernel
theorem dX4_readShoe_76 : decode cX4_readShoe 76 = .ok (.iconst 2, 1) := by decide +kernel
theorem dX4_readShoe_77 : decode cX4_readShoe 77 = .ok (.iconst 1, 1) := by decide +kernel
theorem dX4_readShoe_78 : decode cX4_readShoe 78 = .ok (.iastore, 1) := by decide +kernel
theorem dX4_readShoe_79 : decode cX4_readShoe 79 = .ok (.goto 32, 3) := by decide +kernel
theorem dX4_readShoe_82 : decode cX4_readShoe 82 = .ok (.aload_n 0, 1) := by decide +kernel
theorem dX4_readShoe_83 : decode cX4_readShoe 83 = .ok (.bipush 118, 2) := by decide +kernel
theorem dX4_readShoe_85 : decode cX4_readShoe 85 = .ok (.invokevirtual 46, 3) := by decide +kernel
theorem dX4_readShoe_88 : decode cX4_readShoe 88 = .ok (.ifCond .eq 10, 3) := by decide +kernel
theorem dX4_readShoe_91 : decode cX4_readShoe 91 = .ok (.aload_n 1, 1) := by decide +kernel
theorem dX4_readShoe_92 : decode cX4_readShoe 92 = .ok (.iconst 2, 1) := by decide +kernel
theorem dX4_readShoe_93 : decode cX4_readShoe 93 = .ok (.iconst 2, 1) := by decide +kernel
theorem dX4_readShoe_94 : decode cX4_readShoe 94 = .ok (.iastore, 1) := by decide +kernel
theorem dX4_readShoe_95 : decode cX4_readShoe 95 = .ok (.goto 16, 3) := by decide +kernel
theorem dX4_readShoe_98 : decode cX4_readShoe 98 = .ok (.aload_n 0, 1) := by decide +kernel
theorem dX4_readShoe_99 : decode cX4_readShoe 99 = .ok (.bipush 112, 2) := by decide +kernel
theorem dX4_readShoe_101 : decode cX4_readShoe 101 = .ok (.invokevirtual 46, 3) := by decide +kernel
theorem dX4_readShoe_104 : decode cX4_readShoe 104 = .ok (.ifCond .eq 7, 3) := by decide +kernel
theorem dX4_readShoe_107 : decode cX4_readShoe 107 = .ok (.aload_n 1, 1) := by decide +kernel
theorem dX4_readShoe_108 : decode cX4_readShoe 108 = .ok (.iconst 2, 1) := by decide +kernel
theorem dX4_readShoe_109 : decode cX4_readShoe 109 = .ok (.iconst 3, 1) := by decide +kernel
theorem dX4_readShoe_110 : decode cX4_readShoe 110 = .ok (.iastore, 1) := by decide +kernel
theorem dX4_readShoe_111 : decode cX4_readShoe 111 = .ok (.iconst 1, 1) := by decide +kernel
theorem dX4_readShoe_112 : decode cX4_readShoe 112 = .ok (.ireturn, 1) := by decide +kernel
theorem dX4_next_0 : decode cX4_next 0 = .ok (.aload_n 0, 1) := by decide +kernel
theorem dX4_next_1 : decode cX4_next 1 = .ok (.getfield 24, 3) := by decide +kernel
theorem dX4_next_4 : decode cX4_next 4 = .ok (.aload_n 0, 1) := by decide +kernel
theorem dX4_next_5 : decode cX4_next 5 = .ok (.getfield 20, 3) := by decide +kernel
theorem dX4_next_8 : decode cX4_next 8 = .ok (.if_icmp .ge 30, 3) := by decide +kernel
theorem dX4_next_11 : decode cX4_next 11 = .ok (.aload_n 0, 1) := by decide +kernel
theorem dX4_next_12 : decode cX4_next 12 = .ok (.getfield 9, 3) := by decide +kernel
theorem dX4_next_15 : decode cX4_next 15 = .ok (.aload_n 0, 1) := by decide +kernel
theorem dX4_next_16 : decode cX4_next 16 = .ok (.getfield 24, 3) := by decide +kernel
theorem dX4_next_19 : decode cX4_next 19 = .ok (.iaload, 1) := by decide +kernel
theorem dX4_next_20 : decode cX4_next 20 = .ok (.bipush 32, 2) := by decide +kernel
theorem dX4_next_22 : decode cX4_next 22 = .ok (.if_icmp .ne 16, 3) := by decide +kernel
theorem dX4_next_25 : decode cX4_next 25 = .ok (.aload_n 0, 1) := by decide +kernel
theorem dX4_next_26 : decode cX4_next 26 = .ok (.dup, 1) := by decide +kernel
theorem dX4_next_27 : decode cX4_next 27 = .ok (.getfield 24, 3) := by decide +kernel
theorem dX4_next_30 : decode cX4_next 30 = .ok (.iconst 1, 1) := by decide +kernel
theorem dX4_next_31 : decode cX4_next 31 = .ok (.iadd, 1) := by decide +kernel
theorem dX4_next_32 : decode cX4_next 32 = .ok (.putfield 24, 3) := by decide +kernel
theorem dX4_next_35 : decode cX4_next 35 = .ok (.goto (-35), 3) := by decide +kernel
theorem dX4_next_38 : decode cX4_next 38 = .ok (.aload_n 0, 1) := by decide +kernel
theorem dX4_next_39 : decode cX4_next 39 = .ok (.getfield 24, 3) := by decide +kernel
theorem dX4_next_42 : decode cX4_next 42 = .ok (.aload_n 0, 1) := by decide +kernel
theorem dX4_next_43 : decode cX4_next 43 = .ok (.getfield 20, 3) := by decide +kernel
theorem dX4_next_46 : decode cX4_next 46 = .ok (.if_icmp .ge 15, 3) := by decide +kernel
theorem dX4_next_49 : decode cX4_next 49 = .ok (.aload_n 0, 1) := by decide +kernel
theorem dX4_next_50 : decode cX4_next 50 = .ok (.getfield 9, 3) := by decide +kernel
theorem dX4_next_53 : decode cX4_next 53 = .ok (.aload_n 0, 1) := by decide +kernel
theorem dX4_next_54 : decode cX4_next 54 = .ok (.getfield 24, 3) := by decide +kernel
theorem dX4_next_57 : decode cX4_next 57 = .ok (.iaload, 1) := by decide +kernel
theorem dX4_next_58 : decode cX4_next 58 = .ok (.goto 4, 3) := by decide +kernel
theorem dX4_next_61 : decode cX4_next 61 = .ok (.iconst 0, 1) := by decide +kernel
theorem dX4_next_62 : decode cX4_next 62 = .ok (.ireturn, 1) := by decide +kernel
theorem dX4_isPassed_0 : decode cX4_isPassed 0 = .ok (.aload_n 0, 1) := by decide +kernel
theorem dX4_isPassed_1 : decode cX4_isPassed 1 = .ok (.invokevirtual 42, 3) := by decide +kernel
theorem dX4_isPassed_4 : decode cX4_isPassed 4 = .ok (.iload_n 1, 1) := by decide +kernel
theorem dX4_isPassed_5 : decode cX4_isPassed 5 = .ok (.if_icmp .eq 5, 3) := by decide +kernel
theorem dX4_isPassed_8 : decode cX4_isPassed 8 = .ok (.iconst 0, 1) := by decide +kernel
theorem dX4_isPassed_9 : decode cX4_isPassed 9 = .ok (.ireturn, 1) := by decide +kernel
theorem dX4_isPassed_10 : decode cX4_isPassed 10 = .ok (.aload_n 0, 1) := by decide +kernel
theorem dX4_isPassed_11 : decode cX4_isPassed 11 = .ok (.dup, 1) := by decide +kernel
theorem dX4_isPassed_12 : decode cX4_isPassed 12 = .ok (.getfield 24, 3) := by decide +kernel
theorem dX4_isPassed_15 : decode cX4_isPassed 15 = .ok (.iconst 1, 1) := by decide +kernel
theorem dX4_isPassed_16 : decode cX4_isPassed 16 = .ok (.iadd, 1) := by decide +kernel
theorem dX4_isPassed_17 : decode cX4_isPassed 17 = .ok (.putfield 24, 3) := by decide +kernel
theorem dX4_isPassed_20 : decode cX4_isPassed 20 = .ok (.iconst 1, 1) := by decide +kernel
theorem dX4_isPassed_21 : decode cX4_isPassed 21 = .ok (.ireturn, 1) := by decide +kernel
theorem dX4_readNumber_0 : decode cX4_readNumber 0 = .ok (.aload_n 0, 1) := by decide +kernel
theorem dX4_readNumber_1 : decode cX4_readNumber 1 = .ok (.invokevirtual 42, 3) := by decide +kernel
theorem dX4_readNumber_4 : decode cX4_readNumber 4 = .ok (.pop, 1) := by decide +kernel
theorem dX4_readNumber_5 : decode cX4_readNumber 5 = .ok (.aload_n 0, 1) := by decide +kernel
theorem dX4_readNumber_6 : decode cX4_readNumber 6 = .ok (.getfield 24, 3) := by decide +kernel
theorem dX4_readNumber_9 : decode cX4_readNumber 9 = .ok (.istore 5, 2) := by decide +kernel
theorem dX4_readNumber_11 : decode cX4_readNumber 11 = .ok (.iconst 0, 1) := by decide +kernel
theorem dX4_readNumber_12 : decode cX4_readNumber 12 = .ok (.istore 6, 2) := by decide +kernel
theorem dX4_readNumber_14 : decode cX4_readNumber 14 = .ok (.aload_n 0, 1) := by decide +kernel
theorem dX4_readNumber_15 : decode cX4_readNumber 15 = .ok (.getfield 24, 3) := by decide +kernel
theorem dX4_readNumber_18 : decode cX4_readNumber 18 = .ok (.aload_n 0, 1) := by decide +kernel
theorem dX4_readNumber_19 : decode cX4_readNumber 19 = .ok (.getfield 20, 3) := by decide +kernel
theorem dX4_readNumber_22 : decode cX4_readNumber 22 = .ok (.if_icmp .ge 61, 3) := by decide +kernel
theorem dX4_readNumber_25 : decode cX4_readNumber 25 = .ok (.aload_n 0, 1) := by decide +kernel
theorem dX4_readNumber_26 : decode cX4_readNumber 26 = .ok (.getfield 9, 3) := by decide +kernel
theorem dX4_readNumber_29 : decode cX4_readNumber 29 = .ok (.aload_n 0, 1) := by decide +kernel
theorem dX4_readNumber_30 : decode cX4_readNumber 30 = .ok (.getfield 24, 3) := by decide +kernel
theorem dX4_readNumber_33 : decode cX4_readNumber 33 = .ok (.iaload, 1) := by decide +kernel
theorem dX4_readNumber_34 : decode cX4_readNumber 34 = .ok (.bipush 48, 2) := by decide +kernel
theorem dX4_readNumber_36 : decode cX4_readNumber 36 = .ok (.bipush 57, 2) := by decide +kernel
theorem dX4_readNumber_38 : decode cX4_readNumber 38 = .ok (.invokestatic 27, 3) := by decide +kernel
theorem dX4_readNumber_41 : decode cX4_readNumber 41 = .ok (.ifCond .eq 42, 3) := by decide +kernel
theorem dX4_readNumber_44 : decode cX4_readNumber 44 = .ok (.sipush 1000, 3) := by decide +kernel
theorem dX4_readNumber_47 : decode cX4_readNumber 47 = .ok (.bipush 10, 2) := by decide +kernel
theorem dX4_readNumber_49 : decode cX4_readNumber 49 = .ok (.iload 6, 2) := by decide +kernel
theorem dX4_readNumber_51 : decode cX4_readNumber 51 = .ok (.imul, 1) := by decide +kernel
theorem dX4_readNumber_52 : decode cX4_readNumber 52 = .ok (.aload_n 0, 1) := by decide +kernel
theorem dX4_readNumber_53 : decode cX4_readNumber 53 = .ok (.getfield 9, 3) := by decide +kernel
theorem dX4_readNumber_56 : decode cX4_readNumber 56 = .ok (.aload_n 0, 1) := by decide +kernel
theorem dX4_readNumber_57 : decode cX4_readNumber 57 = .ok (.getfield 24, 3) := by decide +kernel
theorem dX4_readNumber_60 : decode cX4_readNumber 60 = .ok (.iaload, 1) := by decide +kernel
theorem dX4_readNumber_61 : decode cX4_readNumber 61 = .ok (.iadd, 1) := by decide +kernel
theorem dX4_readNumber_62 : decode cX4_readNumber 62 = .ok (.bipush 48, 2) := by decide +kernel
theorem dX4_readNumber_64 : decode cX4_readNumber 64 = .ok (.isub, 1) := by decide +kernel
theorem dX4_readNumber_65 : decode cX4_readNumber 65 = .ok (.invokestatic 73, 3) := by decide +kernel
theorem dX4_readNumber_68 : decode cX4_readNumber 68 = .ok (.istore 6, 2) := by decide +kernel
theorem dX4_readNumber_70 : decode cX4_readNumber 70 = .ok (.aload_n 0, 1) := by decide +kernel
theorem dX4_readNumber_71 : decode cX4_readNumber 71 = .ok (.dup, 1) := by decide +kernel
theorem dX4_readNumber_72 : decode cX4_readNumber 72 = .ok (.getfield 24, 3) := by decide +kernel
theorem dX4_readNumber_75 : decode cX4_readNumber 75 = .ok (.iconst 1, 1) := by decide +kernel
theorem dX4_readNumber_76 : decode cX4_readNumber 76 = .ok (.iadd, 1) := by decide +kernel
theorem dX4_readNumber_77 : decode cX4_readNumber 77 = .ok (.putfield 24, 3) := by decide +kernel
theorem dX4_readNumber_80 : decode cX4_readNumber 80 = .ok (.goto (-66), 3) := by decide +kernel
theorem dX4_readNumber_83 : decode cX4_readNumber 83 = .ok (.aload_n 0, 1) := by decide +kernel
theorem dX4_readNumber_84 : decode cX4_readNumber 84 = .ok (.getfield 24, 3) := by decide +kernel
theorem dX4_readNumber_87 : decode cX4_readNumber 87 = .ok (.iload 5, 2) := by decide +kernel
theorem dX4_readNumber_89 : decode cX4_readNumber 89 = .ok (.if_icmp .eq 14, 3) := by decide +kernel
theorem dX4_readNumber_92 : decode cX4_readNumber 92 = .ok (.iload 6, 2) := by decide +kernel
theorem dX4_readNumber_94 : decode cX4_readNumber 94 = .ok (.iload_n 3, 1) := by decide +kernel
theorem dX4_readNumber_95 : decode cX4_readNumber 95 = .ok (.iload 4, 2) := by decide +kernel
theorem dX4_readNumber_97 : decode cX4_readNumber 97 = .ok (.invokestatic 27, 3) := by decide +kernel
theorem dX4_readNumber_100 : decode cX4_readNumber 100 = .ok (.ifCond .ne 11, 3) := by decide +kernel
theorem dX4_readNumber_103 : decode cX4_readNumber 103 = .ok (.aload_n 0, 1) := by decide +kernel
theorem dX4_readNumber_104 : decode cX4_readNumber 104 = .ok (.iload 5, 2) := by decide +kernel
theorem dX4_readNumber_106 : decode cX4_readNumber 106 = .ok (.putfield 24, 3) := by decide +kernel
theorem dX4_readNumber_109 : decode cX4_readNumber 109 = .ok (.iconst 0, 1) := by decide +kernel
theorem dX4_readNumber_110 : decode cX4_readNumber 110 = .ok (.ireturn, 1) := by decide +kernel
theorem dX4_readNumber_111 : decode cX4_readNumber 111 = .ok (.aload_n 1, 1) := by decide +kernel
theorem dX4_readNumber_112 : decode cX4_readNumber 112 = .ok (.iload_n 2, 1) := by decide +kernel
theorem dX4_readNumber_113 : decode cX4_readNumber 113 = .ok (.iload 6, 2) := by decide +kernel
theorem dX4_readNumber_115 : decode cX4_readNumber 115 = .ok (.iastore, 1) := by decide +kernel
theorem dX4_readNumber_116 : decode cX4_readNumber 116 = .ok (.iconst 1, 1) := by decide +kernel
theorem dX4_readNumber_117 : decode cX4_readNumber 117 = .ok (.ireturn, 1) := by decide +kernel
theorem dX5_init_0 : decode cX5_init 0 = .ok (.aload_n 0, 1) := by decide +kernel
theorem dX5_init_1 : decode cX5_init 1 = .ok (.invokespecial 3, 3) := by decide +kernel
theorem dX5_init_4 : decode cX5_init 4 = .ok (.aload_n 0, 1) := by decide +kernel
theorem dX5_init_5 : decode cX5_init 5 = .ok (.bipush 42, 2) := by decide +kernel
theorem dX5_init_7 : decode cX5_init 7 = .ok (.bipush 42, 2) := by decide +kernel
theorem dX5_init_9 : decode cX5_init 9 = .ok (.multianewarray 11 2, 4) := by decide +kernel
theorem dX5_init_13 : decode cX5_init 13 = .ok (.putfield 13, 3) := by decide +kernel
theorem dX5_init_16 : decode cX5_init 16 = .ok (.aload_n 0, 1) := by decide +kernel
theorem dX5_init_17 : decode cX5_init 17 = .ok (.lconst 0, 1) := by decide +kernel
theorem dX5_init_18 : decode cX5_init 18 = .ok (.putfield 16, 3) := by decide +kernel
theorem dX5_init_21 : decode cX5_init 21 = .ok (.return_, 1) := by decide +kernel
theorem dX5_findFewest_0 : decode cX5_findFewest 0 = .ok (.aload_n 0, 1) := by decide +kernel
theorem dX5_findFewest_1 : decode cX5_findFewest 1 = .ok (.lconst 0, 1) := by decide +kernel
theorem dX5_findFewest_2 : decode cX5_findFewest 2 = .ok (.putfield 16, 3) := by decide +kernel
theorem dX5_findFewest_5 : decode cX5_findFewest 5 = .ok (.iconst 0, 1) := by decide +kernel
theorem dX5_findFewest_6 : decode cX5_findFewest 6 = .ok (.istore 5, 2) := by decide +kernel
theorem dX5_findFewest_8 : decode cX5_findFewest 8 = .ok (.iload 5, 2) := by decide +kernel
theorem dX5_findFewest_10 : decode cX5_findFewest 10 = .ok (.aload_n 1, 1) := by decide +kernel
theorem dX5_findFewest_11 : decode cX5_findFewest 11 = .ok (.getfield 20, 3) := by decide +kernel
theorem dX5_findFewest_14 : decode cX5_findFewest 14 = .ok (.if_icmp .ge 42, 3) := by decide +kernel
theorem dX5_findFewest_17 : decode cX5_findFewest 17 = .ok (.aload_n 1, 1) := by decide +kernel
theorem dX5_findFewest_18 : decode cX5_findFewest 18 = .ok (.iload 5, 2) := by decide +kernel
theorem dX5_findFewest_20 : decode cX5_findFewest 20 = .ok (.iload_n 2, 1) := by decide +kernel
theorem dX5_findFewest_21 : decode cX5_findFewest 21 = .ok (.invokevirtual 26, 3) := by decide +kernel
theorem dX5_findFewest_24 : decode cX5_findFewest 24 = .ok (.ifCond .eq 26, 3) := by decide +kernel
theorem dX5_findFewest_27 : decode cX5_findFewest 27 = .ok (.aload_n 0, 1) := by decide +kernel
theorem dX5_findFewest_28 : decode cX5_findFewest 28 = .ok (.dup, 1) := by decide +kernel
theorem dX5_findFewest_29 : decode cX5_findFewest 29 = .ok (.getfield 16, 3) := by decide +kernel
theorem dX5_findFewest_32 : decode cX5_findFewest 32 = .ok (.lconst 1, 1) := by decide +kernel
theorem dX5_findFewest_33 : decode cX5_findFewest 33 = .ok (.aload_n 1, 1) := by decide +kernel
theorem dX5_findFewest_34 : decode cX5_findFewest 34 = .ok (.getfield 30, 3) := by decide +kernel
theorem dX5_findFewest_37 : decode cX5_findFewest 37 = .ok (.iload 5, 2) := by decide +kernel
theorem dX5_findFewest_39 : decode cX5_findFewest 39 = .ok (.aaload, 1) := by decide +kernel
theorem dX5_findFewest_40 : decode cX5_findFewest 40 = .ok (.iconst 1, 1) := by decide +kernel
theorem dX5_findFewest_41 : decode cX5_findFewest 41 = .ok (.iaload, 1) := by decide +kernel
theorem dX5_findFewest_42 : decode cX5_findFewest 42 = .ok (.bipush 20, 2) := by decide +kernel
theorem dX5_findFewest_44 : decode cX5_findFewest 44 = .ok (.isub, 1) := by decide +kernel
theorem dX5_findFewest_45 : decode cX5_findFewest 45 = .ok (.lshl, 1) := by decide +kernel
theorem dX5_findFewest_46 : decode cX5_findFewest 46 = .ok (.lor, 1) := by decide +kernel
theorem dX5_findFewest_47 : decode cX5_findFewest 47 = .ok (.putfield 16, 3) := by decide +kernel
theorem dX5_findFewest_50 : decode cX5_findFewest 50 = .ok (.iinc 5 1, 3) := by decide +kernel
theorem dX5_findFewest_53 : decode cX5_findFewest 53 = .ok (.goto (-45), 3) := by decide +kernel
theorem dX5_findFewest_56 : decode cX5_findFewest 56 = .ok (.iload_n 3, 1) := by decide +kernel
theorem dX5_findFewest_57 : decode cX5_findFewest 57 = .ok (.bipush 20, 2) := by decide +kernel
theorem dX5_findFewest_59 : decode cX5_findFewest 59 = .ok (.isub, 1) := by decide +kernel
theorem dX5_findFewest_60 : decode cX5_findFewest 60 = .ok (.istore 5, 2) := by decide +kernel
theorem dX5_findFewest_62 : decode cX5_findFewest 62 = .ok (.iload 4, 2) := by decide +kernel
theorem dX5_findFewest_64 : decode cX5_findFewest 64 = .ok (.bipush 20, 2) := by decide +kernel
theorem dX5_findFewest_66 : decode cX5_findFewest 66 = .ok (.isub, 1) := by decide +kernel
theorem dX5_findFewest_67 : decode cX5_findFewest 67 = .ok (.iconst 1, 1) := by decide +kernel
theorem dX5_findFewest_68 : decode cX5_findFewest 68 = .ok (.iadd, 1) := by decide +kernel
theorem dX5_findFewest_69 : decode cX5_findFewest 69 = .ok (.istore 6, 2) := by decide +kernel
theorem dX5_findFewest_71 : decode cX5_findFewest 71 = .ok (.iconst 0, 1) := by decide +kernel
theorem dX5_findFewest_72 : decode cX5_findFewest 72 = .ok (.istore 7, 2) := by decide +kernel
theorem dX5_findFewest_74 : decode cX5_findFewest 74 = .ok (.iload 7, 2) := by decide +kernel
theorem dX5_findFewest_76 : decode cX5_findFewest 76 = .ok (.iload 6, 2) := by decide +kernel
theorem dX5_findFewest_78 : decode cX5_findFewest 78 = .ok (.iload 5, 2) := by decide +kernel
theorem dX5_findFewest_80 : decode cX5_findFewest 80 = .ok (.isub, 1) := by decide +kernel
theorem dX5_findFewest_81 : decode cX5_findFewest 81 = .ok (.if_icmp .gt 63, 3) := by decide +kernel
theorem dX5_findFewest_84 : decode cX5_findFewest 84 = .ok (.iload 5, 2) := by decide +kernel
theorem dX5_findFewest_86 : decode cX5_findFewest 86 = .ok (.istore 8, 2) := by decide +kernel
theorem dX5_findFewest_88 : decode cX5_findFewest 88 = .ok (.iload 8, 2) := by decide +kernel
theorem dX5_findFewest_90 : decode cX5_findFewest 90 = .ok (.iload 7, 2) := by decide +kernel
theorem dX5_findFewest_92 : decode cX5_findFewest 92 = .ok (.iadd, 1) := by decide +kernel
theorem dX5_findFewest_93 : decode cX5_findFewest 93 = .ok (.iload 6, 2) := by decide +kernel
theorem dX5_findFewest_95 : decode cX5_findFewest 95 = .ok (.if_icmp .gt 43, 3) := by decide +kernel
theorem dX5_findFewest_98 : decode cX5_findFewest 98 = .ok (.aload_n 0, 1) := by decide +kernel
theorem dX5_findFewest_99 : decode cX5_findFewest 99 = .ok (.getfield 13, 3) := by decide +kernel
theorem dX5_findFewest_102 : decode cX5_findFewest 102 = .ok (.iload 8, 2) := by decide +kernel
theorem dX5_findFewest_104 : decode cX5_findFewest 104 = .ok (.aaload, 1) := by decide +kernel
theorem dX5_findFewest_105 : decode cX5_findFewest 105 = .ok (.iload 8, 2) := by decide +kernel
theorem dX5_findFewest_107 : decode cX5_findFewest 107 = .ok (.iload 7, 2) := by decide +kernel
theorem dX5_findFewest_109 : decode cX5_findFewest 109 = .ok (.iadd, 1) := by decide +kernel
theorem dX5_findFewest_110 : decode cX5_findFewest 110 = .ok (.iload 7, 2) := by decide +kernel
theorem dX5_findFewest_112 : decode cX5_findFewest 112 = .ok (.iconst 2, 1) := by decide +kernel
theorem dX5_findFewest_113 : decode cX5_findFewest 113 = .ok (.if_icmp .ge 7, 3) := by decide +kernel
theorem dX5_findFewest_116 : decode cX5_findFewest 116 = .ok (.iconst 0, 1) := by decide +kernel
theorem dX5_findFewest_117 : decode cX5_findFewest 117 = .ok (.goto 14, 3) := by decide +kernel
theorem dX5_findFewest_120 : decode cX5_findFewest 120 = .ok (.aload_n 0, 1) := by decide +kernel
theorem dX5_findFewest_121 : decode cX5_findFewest 121 = .ok (.iload 8, 2) := by decide +kernel
theorem dX5_findFewest_123 : decode cX5_findFewest 123 = .ok (.iload 8, 2) := by decide +kernel
theorem dX5_findFewest_125 : decode cX5_findFewest 125 = .ok (.iload 7, 2) := by decide +kernel
theorem dX5_findFewest_127 : decode cX5_findFewest 127 = .ok (.iadd, 1) := by decide +kernel
theorem dX5_findFewest_128 : decode cX5_findFewest 128 = .ok (.invokevirtual 33, 3) := by decide +kernel
theorem dX5_findFewest_131 : decode cX5_findFewest 131 = .ok (.iastore, 1) := by decide +kernel
theorem dX5_findFewest_132 : decode cX5_findFewest 132 = .ok (.iinc 8 1, 3) := by decide +kernel
theorem dX5_findFewest_135 : decode cX5_findFewest 135 = .ok (.goto (-47), 3) := by decide +kernel
theorem dX5_findFewest_138 : decode cX5_findFewest 138 = .ok (.iinc 7 1, 3) := by decide +kernel
theorem dX5_findFewest_141 : decode cX5_findFewest 141 = .ok (.goto (-67), 3) := by decide +kernel
theorem dX5_findFewest_144 : decode cX5_findFewest 144 = .ok (.return_, 1) := by decide +kernel
theorem dX5_fewestOf_0 : decode cX5_fewestOf 0 = .ok (.bipush 100, 2) := by decide +kernel
theorem dX5_fewestOf_2 : decode cX5_fewestOf 2 = .ok (.istore_n 3, 1) := by decide +kernel
theorem dX5_fewestOf_3 : decode cX5_fewestOf 3 = .ok (.iload_n 1, 1) := by decide +kernel
theorem dX5_fewestOf_4 : decode cX5_fewestOf 4 = .ok (.istore 4, 2) := by decide +kernel
theorem dX5_fewestOf_6 : decode cX5_fewestOf 6 = .ok (.iload 4, 2) := by decide +kernel
theorem dX5_fewestOf_8 : decode cX5_fewestOf 8 = .ok (.iload_n 2, 1) := by decide +kernel
theorem dX5_fewestOf_9 : decode cX5_fewestOf 9 = .ok (.if_icmp .ge 22, 3) := by decide +kernel
theorem dX5_fewestOf_12 : decode cX5_fewestOf 12 = .ok (.iload_n 3, 1) := by decide +kernel
theorem dX5_fewestOf_13 : decode cX5_fewestOf 13 = .ok (.aload_n 0, 1) := by decide +kernel
theorem dX5_fewestOf_14 : decode cX5_fewestOf 14 = .ok (.iload 4, 2) := by decide +kernel
theorem dX5_fewestOf_16 : decode cX5_fewestOf 16 = .ok (.iload_n 1, 1) := by decide +kernel
theorem dX5_fewestOf_17 : decode cX5_fewestOf 17 = .ok (.iload_n 2, 1) := by decide +kernel
theorem dX5_fewestOf_18 : decode cX5_fewestOf 18 = .ok (.invokevirtual 37, 3) := by decide +kernel
theorem dX5_fewestOf_21 : decode cX5_fewestOf 21 = .ok (.invokestatic 41, 3) := by decide +kernel
theorem dX5_fewestOf_24 : decode cX5_fewestOf 24 = .ok (.istore_n 3, 1) := by decide +kernel
theorem dX5_fewestOf_25 : decode cX5_fewestOf 25 = .ok (.iinc 4 1, 3) := by decide +kernel
theorem dX5_fewestOf_28 : decode cX5_fewestOf 28 = .ok (.goto (-22), 3) := by decide +kernel
theorem dX5_fewestOf_31 : decode cX5_fewestOf 31 = .ok (.iload_n 3, 1) := by decide +kernel
theorem dX5_fewestOf_32 : decode cX5_fewestOf 32 = .ok (.ireturn, 1) := by decide +kernel
theorem dX5_fewestBy_0 : decode cX5_fewestBy 0 = .ok (.aload_n 0, 1) := by decide +kernel
theorem dX5_fewestBy_1 : decode cX5_fewestBy 1 = .ok (.getfield 16, 3) := by decide +kernel
theorem dX5_fewestBy_4 : decode cX5_fewestBy 4 = .ok (.iload_n 1, 1) := by decide +kernel
theorem dX5_fewestBy_5 : decode cX5_fewestBy 5 = .ok (.lshr, 1) := by decide +kernel
theorem dX5_fewestBy_6 : decode cX5_fewestBy 6 = .ok (.lconst 1, 1) := by decide +kernel
theorem dX5_fewestBy_7 : decode cX5_fewestBy 7 = .ok (.land, 1) := by decide +kernel
theorem dX5_fewestBy_8 : decode cX5_fewestBy 8 = .ok (.lconst 0, 1) := by decide +kernel
theorem dX5_fewestBy_9 : decode cX5_fewestBy 9 = .ok (.lcmp, 1) := by decide +kernel
theorem dX5_fewestBy_10 : decode cX5_fewestBy 10 = .ok (.ifCond .ne 6, 3) := by decide +kernel
theorem dX5_fewestBy_13 : decode cX5_fewestBy 13 = .ok (.bipush 100, 2) := by decide +kernel
theorem dX5_fewestBy_15 : decode cX5_fewestBy 15 = .ok (.ireturn, 1) := by decide +kernel
theorem dX5_fewestBy_16 : decode cX5_fewestBy 16 = .ok (.bipush 100, 2) := by decide +kernel
theorem dX5_fewestBy_18 : decode cX5_fewestBy 18 = .ok (.iconst 1, 1) := by decide +kernel
theorem dX5_fewestBy_19 : decode cX5_fewestBy 19 = .ok (.aload_n 0, 1) := by decide +kernel
theorem dX5_fewestBy_20 : decode cX5_fewestBy 20 = .ok (.getfield 13, 3) := by decide +kernel
theorem dX5_fewestBy_23 : decode cX5_fewestBy 23 = .ok (.iload_n 2, 1) := by decide +kernel
theorem dX5_fewestBy_24 : decode cX5_fewestBy 24 = .ok (.aaload, 1) := by decide +kernel
theorem dX5_fewestBy_25 : decode cX5_fewestBy 25 = .ok (.iload_n 1, 1) := by decide +kernel
theorem dX5_fewestBy_26 : decode cX5_fewestBy 26 = .ok (.iaload, 1) := by decide +kernel
theorem dX5_fewestBy_27 : decode cX5_fewestBy 27 = .ok (.aload_n 0, 1) := by decide +kernel
theorem dX5_fewestBy_28 : decode cX5_fewestBy 28 = .ok (.getfield 13, 3) := by decide +kernel
theorem dX5_fewestBy_31 : decode cX5_fewestBy 31 = .ok (.iload_n 1, 1) := by decide +kernel
theorem dX5_fewestBy_32 : decode cX5_fewestBy 32 = .ok (.iconst 1, 1) := by decide +kernel
theorem dX5_fewestBy_33 : decode cX5_fewestBy 33 = .ok (.iadd, 1) := by decide +kernel
theorem dX5_fewestBy_34 : decode cX5_fewestBy 34 = .ok (.aaload, 1) := by decide +kernel
theorem dX5_fewestBy_35 : decode cX5_fewestBy 35 = .ok (.iload_n 3, 1) := by decide +kernel
theorem dX5_fewestBy_36 : decode cX5_fewestBy 36 = .ok (.iaload, 1) := by decide +kernel
theorem dX5_fewestBy_37 : decode cX5_fewestBy 37 = .ok (.invokestatic 46, 3) := by decide +kernel
theorem dX5_fewestBy_40 : decode cX5_fewestBy 40 = .ok (.iadd, 1) := by decide +kernel
theorem dX5_fewestBy_41 : decode cX5_fewestBy 41 = .ok (.invokestatic 41, 3) := by decide +kernel
theorem dX5_fewestBy_44 : decode cX5_fewestBy 44 = .ok (.ireturn, 1) := by decide +kernel
theorem dX5_fewestTries_0 : decode cX5_fewestTries 0 = .ok (.aload_n 0, 1) := by decide +kernel
theorem dX5_fewestTries_1 : decode cX5_fewestTries 1 = .ok (.getfield 13, 3) := by decide +kernel
theorem dX5_fewestTries_4 : decode cX5_fewestTries 4 = .ok (.iload_n 1, 1) := by decide +kernel
theorem dX5_fewestTries_5 : decode cX5_fewestTries 5 = .ok (.bipush 20, 2) := by decide +kernel
theorem dX5_fewestTries_7 : decode cX5_fewestTries 7 = .ok (.isub, 1) := by decide +kernel
theorem dX5_fewestTries_8 : decode cX5_fewestTries 8 = .ok (.aaload, 1) := by decide +kernel
theorem dX5_fewestTries_9 : decode cX5_fewestTries 9 = .ok (.iload_n 2, 1) := by decide +kernel
theorem dX5_fewestTries_10 : decode cX5_fewestTries 10 = .ok (.bipush 20, 2) := by decide +kernel
theorem dX5_fewestTries_12 : decode cX5_fewestTries 12 = .ok (.isub, 1) := by decide +kernel
theorem dX5_fewestTries_13 : decode cX5_fewestTries 13 = .ok (.iconst 1, 1) := by decide +kernel
theorem dX5_fewestTries_14 : decode cX5_fewestTries 14 = .ok (.iadd, 1) := by decide +kernel
theorem dX5_fewestTries_15 : decode cX5_fewestTries 15 = .ok (.iaload, 1) := by decide +kernel
theorem dX5_fewestTries_16 : decode cX5_fewestTries 16 = .ok (.istore_n 3, 1) := by decide +kernel
theorem dX5_fewestTries_17 : decode cX5_fewestTries 17 = .ok (.iload_n 3, 1) := by decide +kernel
theorem dX5_fewestTries_18 : decode cX5_fewestTries 18 = .ok (.bipush 100, 2) := by decide +kernel
theorem dX5_fewestTries_20 : decode cX5_fewestTries 20 = .ok (.if_icmp .ne 8, 3) := by decide +kernel
theorem dX5_fewestTries_23 : decode cX5_fewestTries 23 = .ok (.bipush (-4), 2) := by decide +kernel
theorem dX5_fewestTries_25 : decode cX5_fewestTries 25 = .ok (.goto 4, 3) := by decide +kernel
theorem dX5_fewestTries_28 : decode cX5_fewestTries 28 = .ok (.iload_n 3, 1) := by decide +kernel
theorem dX5_fewestTries_29 : decode cX5_fewestTries 29 = .ok (.ireturn, 1) := by decide +kernel
theorem dX5_firstTried_0 : decode cX5_firstTried 0 = .ok (.iload_n 1, 1) := by decide +kernel
theorem dX5_firstTried_1 : decode cX5_firstTried 1 = .ok (.bipush 20, 2) := by decide +kernel
theorem dX5_firstTried_3 : decode cX5_firstTried 3 = .ok (.isub, 1) := by decide +kernel
theorem dX5_firstTried_4 : decode cX5_firstTried 4 = .ok (.istore_n 3, 1) := by decide +kernel
theorem dX5_firstTried_5 : decode cX5_firstTried 5 = .ok (.iload_n 2, 1) := by decide +kernel
theorem dX5_firstTried_6 : decode cX5_firstTried 6 = .ok (.bipush 20, 2) := by decide +kernel
theorem dX5_firstTried_8 : decode cX5_firstTried 8 = .ok (.isub, 1) := by decide +kernel
theorem dX5_firstTried_9 : decode cX5_firstTried 9 = .ok (.iconst 1, 1) := by decide +kernel
theorem dX5_firstTried_10 : decode cX5_firstTried 10 = .ok (.iadd, 1) := by decide +kernel
theorem dX5_firstTried_11 : decode cX5_firstTried 11 = .ok (.istore 4, 2) := by decide +kernel
theorem dX5_firstTried_13 : decode cX5_firstTried 13 = .ok (.aload_n 0, 1) := by decide +kernel
theorem dX5_firstTried_14 : decode cX5_firstTried 14 = .ok (.getfield 13, 3) := by decide +kernel
theorem dX5_firstTried_17 : decode cX5_firstTried 17 = .ok (.iload_n 3, 1) := by decide +kernel
theorem dX5_firstTried_18 : decode cX5_firstTried 18 = .ok (.aaload, 1) := by decide +kernel
theorem dX5_firstTried_19 : decode cX5_firstTried 19 = .ok (.iload 4, 2) := by decide +kernel
theorem dX5_firstTried_21 : decode cX5_firstTried 21 = .ok (.iaload, 1) := by decide +kernel
theorem dX5_firstTried_22 : decode cX5_firstTried 22 = .ok (.istore 5, 2) := by decide +kernel
theorem dX5_firstTried_24 : decode cX5_firstTried 24 = .ok (.iload 5, 2) := by decide +kernel
theorem dX5_firstTried_26 : decode cX5_firstTried 26 = .ok (.ifCond .eq 10, 3) := by decide +kernel
theorem dX5_firstTried_29 : decode cX5_firstTried 29 = .ok (.iload 5, 2) := by decide +kernel
theorem dX5_firstTried_31 : decode cX5_firstTried 31 = .ok (.bipush 100, 2) := by decide +kernel
theorem dX5_firstTried_33 : decode cX5_firstTried 33 = .ok (.if_icmp .ne 6, 3) := by decide +kernel
theorem dX5_firstTried_36 : decode cX5_firstTried 36 = .ok (.bipush (-4), 2) := by decide +kernel
theorem dX5_firstTried_38 : decode cX5_firstTried 38 = .ok (.ireturn, 1) := by decide +kernel
theorem dX5_firstTried_39 : decode cX5_firstTried 39 = .ok (.iload_n 3, 1) := by decide +kernel
theorem dX5_firstTried_40 : decode cX5_firstTried 40 = .ok (.istore 6, 2) := by decide +kernel
theorem dX5_firstTried_42 : decode cX5_firstTried 42 = .ok (.iload 6, 2) := by decide +kernel
theorem dX5_firstTried_44 : decode cX5_firstTried 44 = .ok (.iload 4, 2) := by decide +kernel
theorem dX5_firstTried_46 : decode cX5_firstTried 46 = .ok (.if_icmp .ge 29, 3) := by decide +kernel
theorem dX5_firstTried_49 : decode cX5_firstTried 49 = .ok (.aload_n 0, 1) := by decide +kernel
theorem dX5_firstTried_50 : decode cX5_firstTried 50 = .ok (.iload 6, 2) := by decide +kernel
theorem dX5_firstTried_52 : decode cX5_firstTried 52 = .ok (.iload_n 3, 1) := by decide +kernel
theorem dX5_firstTried_53 : decode cX5_firstTried 53 = .ok (.iload 4, 2) := by decide +kernel
theorem dX5_firstTried_55 : decode cX5_firstTried 55 = .ok (.invokevirtual 37, 3) := by decide +kernel
theorem dX5_firstTried_58 : decode cX5_firstTried 58 = .ok (.iload 5, 2) := by decide +kernel
theorem dX5_firstTried_60 : decode cX5_firstTried 60 = .ok (.if_icmp .ne 9, 3) := by decide +kernel
theorem dX5_firstTried_63 : decode cX5_firstTried 63 = .ok (.iload 6, 2) := by decide +kernel
theorem dX5_firstTried_65 : decode cX5_firstTried 65 = .ok (.bipush 20, 2) := by decide +kernel
theorem dX5_firstTried_67 : decode cX5_firstTried 67 = .ok (.iadd, 1) := by decide +kernel
theorem dX5_firstTried_68 : decode cX5_firstTried 68 = .ok (.ireturn, 1) := by decide +kernel
theorem dX5_firstTried_69 : decode cX5_firstTried 69 = .ok (.iinc 6 1, 3) := by decide +kernel
theorem dX5_firstTried_72 : decode cX5_firstTried 72 = .ok (.goto (-30), 3) := by decide +kernel
theorem dX5_firstTried_75 : decode cX5_firstTried 75 = .ok (.bipush (-4), 2) := by decide +kernel
theorem dX5_firstTried_77 : decode cX5_firstTried 77 = .ok (.ireturn, 1) := by decide +kernel
theorem dX6_init_0 : decode cX6_init 0 = .ok (.aload_n 0, 1) := by decide +kernel
theorem dX6_init_1 : decode cX6_init 1 = .ok (.invokespecial 5, 3) := by decide +kernel
theorem dX6_init_4 : decode cX6_init 4 = .ok (.aload_n 0, 1) := by decide +kernel
theorem dX6_init_5 : decode cX6_init 5 = .ok (.bipush 16, 2) := by decide +kernel
theorem dX6_init_7 : decode cX6_init 7 = .ok (.bipush 7, 2) := by decide +kernel
theorem dX6_init_9 : decode cX6_init 9 = .ok (.multianewarray 11 2, 4) := by decide +kernel
theorem dX6_init_13 : decode cX6_init 13 = .ok (.putfield 13, 3) := by decide +kernel
theorem dX6_init_16 : decode cX6_init 16 = .ok (.aload_n 0, 1) := by decide +kernel
theorem dX6_init_17 : decode cX6_init 17 = .ok (.sipush 128, 3) := by decide +kernel
theorem dX6_init_20 : decode cX6_init 20 = .ok (.newarray .long, 2) := by decide +kernel
theorem dX6_init_22 : decode cX6_init 22 = .ok (.putfield 16, 3) := by decide +kernel
theorem dX6_init_25 : decode cX6_init 25 = .ok (.aload_n 0, 1) := by decide +kernel
theorem dX6_init_26 : decode cX6_init 26 = .ok (.bipush 7, 2) := by decide +kernel
theorem dX6_init_28 : decode cX6_init 28 = .ok (.newarray .int, 2) := by decide +kernel
theorem dX6_init_30 : decode cX6_init 30 = .ok (.putfield 20, 3) := by decide +kernel
theorem dX6_init_33 : decode cX6_init 33 = .ok (.aload_n 0, 1) := by decide +kernel
theorem dX6_init_34 : decode cX6_init 34 = .ok (.iconst 0, 1) := by decide +kernel
theorem dX6_init_35 : decode cX6_init 35 = .ok (.putfield 24, 3) := by decide +kernel
theorem dX6_init_38 : decode cX6_init 38 = .ok (.return_, 1) := by decide +kernel
theorem dX6_findForAll_0 : decode cX6_findForAll 0 = .ok (.aload_n 0, 1) := by decide +kernel
theorem dX6_findForAll_1 : decode cX6_findForAll 1 = .ok (.aload_n 1, 1) := by decide +kernel
theorem dX6_findForAll_2 : decode cX6_findForAll 2 = .ok (.iload_n 2, 1) := by decide +kernel
theorem dX6_findForAll_3 : decode cX6_findForAll 3 = .ok (.invokevirtual 28, 3) := by decide +kernel
theorem dX6_findForAll_6 : decode cX6_findForAll 6 = .ok (.aload_n 0, 1) := by decide +kernel
theorem dX6_findForAll_7 : decode cX6_findForAll 7 = .ok (.aload_n 1, 1) := by decide +kernel
theorem dX6_findForAll_8 : decode cX6_findForAll 8 = .ok (.invokevirtual 32, 3) := by decide +kernel
theorem dX6_findForAll_11 : decode cX6_findForAll 11 = .ok (.aload_n 0, 1) := by decide +kernel
theorem dX6_findForAll_12 : decode cX6_findForAll 12 = .ok (.getfield 16, 3) := by decide +kernel
theorem dX6_findForAll_15 : decode cX6_findForAll 15 = .ok (.iconst 1, 1) := by decide +kernel
theorem dX6_findForAll_16 : decode cX6_findForAll 16 = .ok (.aload_n 1, 1) := by decide +kernel
theorem dX6_findForAll_17 : decode cX6_findForAll 17 = .ok (.getfield 36, 3) := by decide +kernel
theorem dX6_findForAll_20 : decode cX6_findForAll 20 = .ok (.ishl, 1) := by decide +kernel
theorem dX6_findForAll_21 : decode cX6_findForAll 21 = .ok (.iconst 1, 1) := by decide +kernel
theorem dX6_findForAll_22 : decode cX6_findForAll 22 = .ok (.isub, 1) := by decide +kernel
theorem dX6_findForAll_23 : decode cX6_findForAll 23 = .ok (.laload, 1) := by decide +kernel
theorem dX6_findForAll_24 : decode cX6_findForAll 24 = .ok (.lstore_n 3, 1) := by decide +kernel
theorem dX6_findForAll_25 : decode cX6_findForAll 25 = .ok (.lload_n 3, 1) := by decide +kernel
theorem dX6_findForAll_26 : decode cX6_findForAll 26 = .ok (.ldc2_w 41, 3) := by decide +kernel
theorem dX6_findForAll_29 : decode cX6_findForAll 29 = .ok (.lcmp, 1) := by decide +kernel
theorem dX6_findForAll_30 : decode cX6_findForAll 30 = .ok (.ifCond .ne 5, 3) := by decide +kernel
theorem dX6_findForAll_33 : decode cX6_findForAll 33 = .ok (.iconst 0, 1) := by decide +kernel
theorem dX6_findForAll_34 : decode cX6_findForAll 34 = .ok (.ireturn, 1) := by decide +kernel
theorem dX6_findForAll_35 : decode cX6_findForAll 35 = .ok (.aload_n 0, 1) := by decide +kernel
theorem dX6_findForAll_36 : decode cX6_findForAll 36 = .ok (.lload_n 3, 1) := by decide +kernel
theorem dX6_findForAll_37 : decode cX6_findForAll 37 = .ok (.bipush 28, 2) := by decide +kernel
theorem dX6_findForAll_39 : decode cX6_findForAll 39 = .ok (.lushr, 1) := by decide +kernel
theorem dX6_findForAll_40 : decode cX6_findForAll 40 = .ok (.l2i, 1) := by decide +kernel
theorem dX6_findForAll_41 : decode cX6_findForAll 41 = .ok (.putfield 24, 3) := by decide +kernel
theorem dX6_findForAll_44 : decode cX6_findForAll 44 = .ok (.iconst 0, 1) := by decide +kernel
theorem dX6_findForAll_45 : decode cX6_findForAll 45 = .ok (.istore 5, 2) := by decide +kernel
theorem dX6_findForAll_47 : decode cX6_findForAll 47 = .ok (.iload 5, 2) := by decide +kernel
theorem dX6_findForAll_49 : decode cX6_findForAll 49 = .ok (.aload_n 1, 1) := by decide +kernel
theorem dX6_findForAll_50 : decode cX6_findForAll 50 = .ok (.getfield 36, 3) := by decide +kernel
theorem dX6_findForAll_53 : decode cX6_findForAll 53 = .ok (.if_icmp .ge 27, 3) := by decide +kernel
theorem dX6_findForAll_56 : decode cX6_findForAll 56 = .ok (.aload_n 0, 1) := by decide +kernel
theorem dX6_findForAll_57 : decode cX6_findForAll 57 = .ok (.getfield 20, 3) := by decide +kernel
theorem dX6_findForAll_60 : decode cX6_findForAll 60 = .ok (.iload 5, 2) := by decide +kernel
theorem dX6_findForAll_62 : decode cX6_findForAll 62 = .ok (.lload_n 3, 1) := by decide +kernel
theorem dX6_findForAll_63 : decode cX6_findForAll 63 = .ok (.iload 5, 2) := by decide +kernel
theorem dX6_findForAll_65 : decode cX6_findForAll 65 = .ok (.invokestatic 43, 3) := by decide +kernel
theorem dX6_findForAll_68 : decode cX6_findForAll 68 = .ok (.lushr, 1) := by decide +kernel
theorem dX6_findForAll_69 : decode cX6_findForAll 69 = .ok (.l2i, 1) := by decide +kernel
theorem dX6_findForAll_70 : decode cX6_findForAll 70 = .ok (.bipush 15, 2) := by decide +kernel
theorem dX6_findForAll_72 : decode cX6_findForAll 72 = .ok (.iand, 1) := by decide +kernel
theorem dX6_findForAll_73 : decode cX6_findForAll 73 = .ok (.iastore, 1) := by decide +kernel
theorem dX6_findForAll_74 : decode cX6_findForAll 74 = .ok (.iinc 5 1, 3) := by decide +kernel
theorem dX6_findForAll_77 : decode cX6_findForAll 77 = .ok (.goto (-30), 3) := by decide +kernel
theorem dX6_findForAll_80 : decode cX6_findForAll 80 = .ok (.iconst 1, 1) := by decide +kernel
theorem dX6_findForAll_81 : decode cX6_findForAll 81 = .ok (.ireturn, 1) := by decide +kernel
theorem dX6_findMost_0 : decode cX6_findMost 0 = .ok (.aload_n 0, 1) := by decide +kernel
theorem dX6_findMost_1 : decode cX6_findMost 1 = .ok (.aload_n 1, 1) := by decide +kernel
theorem dX6_findMost_2 : decode cX6_findMost 2 = .ok (.iload_n 2, 1) := by decide +kernel
theorem dX6_findMost_3 : decode cX6_findMost 3 = .ok (.invokevirtual 28, 3) := by decide +kernel
theorem dX6_findMost_6 : decode cX6_findMost 6 = .ok (.aload_n 0, 1) := by decide +kernel
theorem dX6_findMost_7 : decode cX6_findMost 7 = .ok (.aload_n 1, 1) := by decide +kernel
theorem dX6_findMost_8 : decode cX6_findMost 8 = .ok (.invokevirtual 32, 3) := by decide +kernel
theorem dX6_findMost_11 : decode cX6_findMost 11 = .ok (.iconst 0, 1) := by decide +kernel
theorem dX6_findMost_12 : decode cX6_findMost 12 = .ok (.istore_n 3, 1) := by decide +kernel
theorem dX6_findMost_13 : decode cX6_findMost 13 = .ok (.iconst 0, 1) := by decide +kernel
theorem dX6_findMost_14 : decode cX6_findMost 14 = .ok (.istore 4, 2) := by decide +kernel
theorem dX6_findMost_16 : decode cX6_findMost 16 = .ok (.iload 4, 2) := by decide +kernel
theorem dX6_findMost_18 : decode cX6_findMost 18 = .ok (.iconst 1, 1) := by decide +kernel
theorem dX6_findMost_19 : decode cX6_findMost 19 = .ok (.aload_n 1, 1) := by decide +kernel
theorem dX6_findMost_20 : decode cX6_findMost 20 = .ok (.getfield 36, 3) := by decide +kernel
theorem dX6_findMost_23 : decode cX6_findMost 23 = .ok (.ishl, 1) := by decide +kernel
theorem dX6_findMost_24 : decode cX6_findMost 24 = .ok (.if_icmp .ge 33, 3) := by decide +kernel
theorem dX6_findMost_27 : decode cX6_findMost 27 = .ok (.aload_n 0, 1) := by decide +kernel
theorem dX6_findMost_28 : decode cX6_findMost 28 = .ok (.getfield 16, 3) := by decide +kernel
theorem dX6_findMost_31 : decode cX6_findMost 31 = .ok (.iload 4, 2) := by decide +kernel
theorem dX6_findMost_33 : decode cX6_findMost 33 = .ok (.laload, 1) := by decide +kernel
theorem dX6_findMost_34 : decode cX6_findMost 34 = .ok (.ldc2_w 41, 3) := by decide +kernel
theorem dX6_findMost_37 : decode cX6_findMost 37 = .ok (.lcmp, 1) := by decide +kernel
theorem dX6_findMost_38 : decode cX6_findMost 38 = .ok (.ifCond .eq 13, 3) := by decide +kernel
theorem dX6_findMost_41 : decode cX6_findMost 41 = .ok (.iload_n 3, 1) := by decide +kernel
theorem dX6_findMost_42 : decode cX6_findMost 42 = .ok (.iload 4, 2) := by decide +kernel
theorem dX6_findMost_44 : decode cX6_findMost 44 = .ok (.invokestatic 47, 3) := by decide +kernel
theorem dX6_findMost_47 : decode cX6_findMost 47 = .ok (.invokestatic 52, 3) := by decide +kernel
theorem dX6_findMost_50 : decode cX6_findMost 50 = .ok (.istore_n 3, 1) := by decide +kernel
theorem dX6_findMost_51 : decode cX6_findMost 51 = .ok (.iinc 4 1, 3) := by decide +kernel
theorem dX6_findMost_54 : decode cX6_findMost 54 = .ok (.goto (-38), 3) := by decide +kernel
theorem dX6_findMost_57 : decode cX6_findMost 57 = .ok (.iload_n 3, 1) := by decide +kernel
theorem dX6_findMost_58 : decode cX6_findMost 58 = .ok (.ireturn, 1) := by decide +kernel
theorem dX6_findChain_0 : decode cX6_findChain 0 = .ok (.iconst 0, 1) := by decide +kernel
theorem dX6_findChain_1 : decode cX6_findChain 1 = .ok (.istore_n 3, 1) := by decide +kernel
theorem dX6_findChain_2 : decode cX6_findChain 2 = .ok (.iload_n 3, 1) := by decide +kernel
theorem dX6_findChain_3 : decode cX6_findChain 3 = .ok (.aload_n 1, 1) := by decide +kernel
theorem dX6_findChain_4 : decode cX6_findChain 4 = .ok (.getfield 58, 3) := by decide +kernel
theorem dX6_findChain_7 : decode cX6_findChain 7 = .ok (.if_icmp .ge 88, 3) := by decide +kernel
theorem dX6_findChain_10 : decode cX6_findChain 10 = .ok (.iconst 0, 1) := by decide +kernel
theorem dX6_findChain_11 : decode cX6_findChain 11 = .ok (.istore 4, 2) := by decide +kernel
theorem dX6_findChain_13 : decode cX6_findChain 13 = .ok (.iload 4, 2) := by decide +kernel
theorem dX6_findChain_15 : decode cX6_findChain 15 = .ok (.aload_n 1, 1) := by decide +kernel
theorem dX6_findChain_16 : decode cX6_findChain 16 = .ok (.getfield 36, 3) := by decide +kernel
theorem dX6_findChain_19 : decode cX6_findChain 19 = .ok (.if_icmp .ge 70, 3) := by decide +kernel
theorem dX6_findChain_22 : decode cX6_findChain 22 = .ok (.iload_n 3, 1) := by decide +kernel
theorem dX6_findChain_23 : decode cX6_findChain 23 = .ok (.iload_n 2, 1) := by decide +kernel
theorem dX6_findChain_24 : decode cX6_findChain 24 = .ok (.if_icmp .ne 18, 3) := by decide +kernel
theorem dX6_findChain_27 : decode cX6_findChain 27 = .ok (.aload_n 0, 1) := by decide +kernel
theorem dX6_findChain_28 : decode cX6_findChain 28 = .ok (.getfield 13, 3) := by decide +kernel
theorem dX6_findChain_31 : decode cX6_findChain 31 = .ok (.iload_n 3, 1) := by decide +kernel
theorem dX6_findChain_32 : decode cX6_findChain 32 = .ok (.aaload, 1) := by decide +kernel
theorem dX6_findChain_33 : decode cX6_findChain 33 = .ok (.iload 4, 2) := by decide +kernel
theorem dX6_findChain_35 : decode cX6_findChain 35 = .ok (.ldc2_w 41, 3) := by decide +kernel
theorem dX6_findChain_38 : decode cX6_findChain 38 = .ok (.lastore, 1) := by decide +kernel
theorem dX6_findChain_39 : decode cX6_findChain 39 = .ok (.goto 44, 3) := by decide +kernel
theorem dX6_findChain_42 : decode cX6_findChain 42 = .ok (.aload_n 0, 1) := by decide +kernel
theorem dX6_findChain_43 : decode cX6_findChain 43 = .ok (.getfield 13, 3) := by decide +kernel
theorem dX6_findChain_46 : decode cX6_findChain 46 = .ok (.iload_n 3, 1) := by decide +kernel
theorem dX6_findChain_47 : decode cX6_findChain 47 = .ok (.aaload, 1) := by decide +kernel
theorem dX6_findChain_48 : decode cX6_findChain 48 = .ok (.iload 4, 2) := by decide +kernel
theorem dX6_findChain_50 : decode cX6_findChain 50 = .ok (.laload, 1) := by decide +kernel
theorem dX6_findChain_51 : decode cX6_findChain 51 = .ok (.ldc2_w 41, 3) := by decide +kernel
theorem dX6_findChain_54 : decode cX6_findChain 54 = .ok (.lcmp, 1) := by decide +kernel
theorem dX6_findChain_55 : decode cX6_findChain 55 = .ok (.ifCond .eq 28, 3) := by decide +kernel
theorem dX6_findChain_58 : decode cX6_findChain 58 = .ok (.aload_n 0, 1) := by decide +kernel
theorem dX6_findChain_59 : decode cX6_findChain 59 = .ok (.getfield 13, 3) := by decide +kernel
theorem dX6_findChain_62 : decode cX6_findChain 62 = .ok (.iload_n 3, 1) := by decide +kernel
theorem dX6_findChain_63 : decode cX6_findChain 63 = .ok (.aaload, 1) := by decide +kernel
theorem dX6_findChain_64 : decode cX6_findChain 64 = .ok (.iload 4, 2) := by decide +kernel
theorem dX6_findChain_66 : decode cX6_findChain 66 = .ok (.aload_n 0, 1) := by decide +kernel
theorem dX6_findChain_67 : decode cX6_findChain 67 = .ok (.getfield 20, 3) := by decide +kernel
theorem dX6_findChain_70 : decode cX6_findChain 70 = .ok (.iload 4, 2) := by decide +kernel
theorem dX6_findChain_72 : decode cX6_findChain 72 = .ok (.iaload, 1) := by decide +kernel
theorem dX6_findChain_73 : decode cX6_findChain 73 = .ok (.iload_n 3, 1) := by decide +kernel
theorem dX6_findChain_74 : decode cX6_findChain 74 = .ok (.if_icmp .ne 7, 3) := by decide +kernel
theorem dX6_findChain_77 : decode cX6_findChain 77 = .ok (.lconst 0, 1) := by decide +kernel
theorem dX6_findChain_78 : decode cX6_findChain 78 = .ok (.goto 4, 3) := by decide +kernel
theorem dX6_findChain_81 : decode cX6_findChain 81 = .ok (.lconst 1, 1) := by decide +kernel
theorem dX6_findChain_82 : decode cX6_findChain 82 = .ok (.lastore, 1) := by decide +kernel
theorem dX6_findChain_83 : decode cX6_findChain 83 = .ok (.iinc 4 1, 3) := by decide +kernel
theorem dX6_findChain_86 : decode cX6_findChain 86 = .ok (.goto (-73), 3) := by decide +kernel
theorem dX6_findChain_89 : decode cX6_findChain 89 = .ok (.iinc 3 1, 3) := by decide +kernel
theorem dX6_findChain_92 : decode cX6_findChain 92 = .ok (.goto (-90), 3) := by decide +kernel
theorem dX6_findChain_95 : decode cX6_findChain 95 = .ok (.aload_n 0, 1) := by decide +kernel
theorem dX6_findChain_96 : decode cX6_findChain 96 = .ok (.aload_n 1, 1) := by decide +kernel
theorem dX6_findChain_97 : decode cX6_findChain 97 = .ok (.invokevirtual 32, 3) := by decide +kernel
theorem dX6_findChain_100 : decode cX6_findChain 100 = .ok (.aload_n 0, 1) := by decide +kernel
theorem dX6_findChain_101 : decode cX6_findChain 101 = .ok (.getfield 16, 3) := by decide +kernel
theorem dX6_findChain_104 : decode cX6_findChain 104 = .ok (.iconst 1, 1) := by decide +kernel
theorem dX6_findChain_105 : decode cX6_findChain 105 = .ok (.aload_n 1, 1) := by decide +kernel
theorem dX6_findChain_106 : decode cX6_findChain 106 = .ok (.getfield 36, 3) := by decide +kernel
theorem dX6_findChain_109 : decode cX6_findChain 109 = .ok (.ishl, 1) := by decide +kernel
theorem dX6_findChain_110 : decode cX6_findChain 110 = .ok (.iconst 1, 1) := by decide +kernel
theorem dX6_findChain_111 : decode cX6_findChain 111 = .ok (.isub, 1) := by decide +kernel
theorem dX6_findChain_112 : decode cX6_findChain 112 = .ok (.laload, 1) := by decide +kernel
theorem dX6_findChain_113 : decode cX6_findChain 113 = .ok (.lstore_n 3, 1) := by decide +kernel
theorem dX6_findChain_114 : decode cX6_findChain 114 = .ok (.lload_n 3, 1) := by decide +kernel
theorem dX6_findChain_115 : decode cX6_findChain 115 = .ok (.ldc2_w 41, 3) := by decide +kernel
theorem dX6_findChain_118 : decode cX6_findChain 118 = .ok (.lcmp, 1) := by decide +kernel
theorem dX6_findChain_119 : decode cX6_findChain 119 = .ok (.ifCond .ne 8, 3) := by decide +kernel
theorem dX6_findChain_122 : decode cX6_findChain 122 = .ok (.bipush (-4), 2) := by decide +kernel
theorem dX6_findChain_124 : decode cX6_findChain 124 = .ok (.goto 5, 3) := by decide +kernel
theorem dX6_findChain_127 : decode cX6_findChain 127 = .ok (.lload_n 3, 1) := by decide +kernel
theorem dX6_findChain_128 : decode cX6_findChain 128 = .ok (.l2i, 1) := by decide +kernel
theorem dX6_findChain_129 : decode cX6_findChain 129 = .ok (.ireturn, 1) := by decide +kernel
theorem dX6_isWorn_0 : decode cX6_isWorn 0 = .ok (.iconst 0, 1) := by decide +kernel
theorem dX6_isWorn_1 : decode cX6_isWorn 1 = .ok (.istore_n 3, 1) := by decide +kernel
theorem dX6_isWorn_2 : decode cX6_isWorn 2 = .ok (.iload_n 3, 1) := by decide +kernel
theorem dX6_isWorn_3 : decode cX6_isWorn 3 = .ok (.aload_n 1, 1) := by decide +kernel
theorem dX6_isWorn_4 : decode cX6_isWorn 4 = .ok (.getfield 36, 3) := by decide +kernel
theorem dX6_isWorn_7 : decode cX6_isWorn 7 = .ok (.if_icmp .ge 21, 3) := by decide +kernel
theorem dX6_isWorn_10 : decode cX6_isWorn 10 = .ok (.aload_n 0, 1) := by decide +kernel
theorem dX6_isWorn_11 : decode cX6_isWorn 11 = .ok (.getfield 20, 3) := by decide +kernel
theorem dX6_isWorn_14 : decode cX6_isWorn 14 = .ok (.iload_n 3, 1) := by decide +kernel
theorem dX6_isWorn_15 : decode cX6_isWorn 15 = .ok (.iaload, 1) := by decide +kernel
theorem dX6_isWorn_16 : decode cX6_isWorn 16 = .ok (.iload_n 2, 1) := by decide +kernel
theorem dX6_isWorn_17 : decode cX6_isWorn 17 = .ok (.if_icmp .ne 5, 3) := by decide +kernel
theorem dX6_isWorn_20 : decode cX6_isWorn 20 = .ok (.iconst 1, 1) := by decide +kernel
theorem dX6_isWorn_21 : decode cX6_isWorn 21 = .ok (.ireturn, 1) := by decide +kernel
theorem dX6_isWorn_22 : decode cX6_isWorn 22 = .ok (.iinc 3 1, 3) := by decide +kernel
theorem dX6_isWorn_25 : decode cX6_isWorn 25 = .ok (.goto (-23), 3) := by decide +kernel
theorem dX6_isWorn_28 : decode cX6_isWorn 28 = .ok (.iconst 0, 1) := by decide +kernel
theorem dX6_isWorn_29 : decode cX6_isWorn 29 = .ok (.ireturn, 1) := by decide +kernel
theorem dX6_shiftOf_0 : decode cX6_shiftOf 0 = .ok (.iconst 4, 1) := by decide +kernel
theorem dX6_shiftOf_1 : decode cX6_shiftOf 1 = .ok (.bipush 6, 2) := by decide +kernel
theorem dX6_shiftOf_3 : decode cX6_shiftOf 3 = .ok (.iload_n 0, 1) := by decide +kernel
theorem dX6_shiftOf_4 : decode cX6_shiftOf 4 = .ok (.isub, 1) := by decide +kernel
theorem dX6_shiftOf_5 : decode cX6_shiftOf 5 = .ok (.imul, 1) := by decide +kernel
theorem dX6_shiftOf_6 : decode cX6_shiftOf 6 = .ok (.ireturn, 1) := by decide +kernel
theorem dX6_priceAsked_0 : decode cX6_priceAsked 0 = .ok (.iconst 0, 1) := by decide +kernel
theorem dX6_priceAsked_1 : decode cX6_priceAsked 1 = .ok (.istore_n 3, 1) := by decide +kernel
theorem dX6_priceAsked_2 : decode cX6_priceAsked 2 = .ok (.iload_n 3, 1) := by decide +kernel
theorem dX6_priceAsked_3 : decode cX6_priceAsked 3 = .ok (.aload_n 1, 1) := by decide +kernel
theorem dX6_priceAsked_4 : decode cX6_priceAsked 4 = .ok (.getfield 58, 3) := by decide +kernel
theorem dX6_priceAsked_7 : decode cX6_priceAsked 7 = .ok (.if_icmp .ge 96, 3) := by decide +kernel
theorem dX6_priceAsked_10 : decode cX6_priceAsked 10 = .ok (.iconst 0, 1) := by decide +kernel
theorem dX6_priceAsked_11 : decode cX6_priceAsked 11 = .ok (.istore 4, 2) := by decide +kernel
theorem dX6_priceAsked_13 : decode cX6_priceAsked 13 = .ok (.iload 4, 2) := by decide +kernel
theorem dX6_priceAsked_15 : decode cX6_priceAsked 15 = .ok (.aload_n 1, 1) := by decide +kernel
theorem dX6_priceAsked_16 : decode cX6_priceAsked 16 = .ok (.getfield 36, 3) := by decide +kernel
theorem dX6_priceAsked_19 : decode cX6_priceAsked 19 = .ok (.if_icmp .ge 78, 3) := by decide +kernel
theorem dX6_priceAsked_22 : decode cX6_priceAsked 22 = .ok (.aload_n 1, 1) := by decide +kernel
theorem dX6_priceAsked_23 : decode cX6_priceAsked 23 = .ok (.iload_n 3, 1) := by decide +kernel
theorem dX6_priceAsked_24 : decode cX6_priceAsked 24 = .ok (.iload_n 2, 1) := by decide +kernel
theorem dX6_priceAsked_25 : decode cX6_priceAsked 25 = .ok (.invokevirtual 61, 3) := by decide +kernel
theorem dX6_priceAsked_28 : decode cX6_priceAsked 28 = .ok (.ifCond .eq 22, 3) := by decide +kernel
theorem dX6_priceAsked_31 : decode cX6_priceAsked 31 = .ok (.aload_n 1, 1) := by decide +kernel
theorem dX6_priceAsked_32 : decode cX6_priceAsked 32 = .ok (.iload_n 3, 1) := by decide +kernel
theorem dX6_priceAsked_33 : decode cX6_priceAsked 33 = .ok (.iload 4, 2) := by decide +kernel
theorem dX6_priceAsked_35 : decode cX6_priceAsked 35 = .ok (.aload_n 1, 1) := by decide +kernel
theorem dX6_priceAsked_36 : decode cX6_priceAsked 36 = .ok (.getfield 65, 3) := by decide +kernel
theorem dX6_priceAsked_39 : decode cX6_priceAsked 39 = .ok (.iload 4, 2) := by decide +kernel
theorem dX6_priceAsked_41 : decode cX6_priceAsked 41 = .ok (.aaload, 1) := by decide +kernel
theorem dX6_priceAsked_42 : decode cX6_priceAsked 42 = .ok (.iconst 3, 1) := by decide +kernel
theorem dX6_priceAsked_43 : decode cX6_priceAsked 43 = .ok (.iaload, 1) := by decide +kernel
theorem dX6_priceAsked_44 : decode cX6_priceAsked 44 = .ok (.invokevirtual 69, 3) := by decide +kernel
theorem dX6_priceAsked_47 : decode cX6_priceAsked 47 = .ok (.goto 5, 3) := by decide +kernel
theorem dX6_priceAsked_50 : decode cX6_priceAsked 50 = .ok (.bipush (-4), 2) := by decide +kernel
theorem dX6_priceAsked_52 : decode cX6_priceAsked 52 = .ok (.istore 5, 2) := by decide +kernel
theorem dX6_priceAsked_54 : decode cX6_priceAsked 54 = .ok (.aload_n 0, 1) := by decide +kernel
theorem dX6_priceAsked_55 : decode cX6_priceAsked 55 = .ok (.getfield 13, 3) := by decide +kernel
theorem dX6_priceAsked_58 : decode cX6_priceAsked 58 = .ok (.iload_n 3, 1) := by decide +kernel
theorem dX6_priceAsked_59 : decode cX6_priceAsked 59 = .ok (.aaload, 1) := by decide +kernel
theorem dX6_priceAsked_60 : decode cX6_priceAsked 60 = .ok (.iload 4, 2) := by decide +kernel
theorem dX6_priceAsked_62 : decode cX6_priceAsked 62 = .ok (.iload 5, 2) := by decide +kernel
theorem dX6_priceAsked_64 : decode cX6_priceAsked 64 = .ok (.bipush (-4), 2) := by decide +kernel
theorem dX6_priceAsked_66 : decode cX6_priceAsked 66 = .ok (.if_icmp .ne 9, 3) := by decide +kernel
theorem dX6_priceAsked_69 : decode cX6_priceAsked 69 = .ok (.ldc2_w 41, 3) := by decide +kernel
theorem dX6_priceAsked_72 : decode cX6_priceAsked 72 = .ok (.goto 18, 3) := by decide +kernel
theorem dX6_priceAsked_75 : decode cX6_priceAsked 75 = .ok (.iload 5, 2) := by decide +kernel
theorem dX6_priceAsked_77 : decode cX6_priceAsked 77 = .ok (.i2l, 1) := by decide +kernel
theorem dX6_priceAsked_78 : decode cX6_priceAsked 78 = .ok (.bipush 28, 2) := by decide +kernel
theorem dX6_priceAsked_80 : decode cX6_priceAsked 80 = .ok (.lshl, 1) := by decide +kernel
theorem dX6_priceAsked_81 : decode cX6_priceAsked 81 = .ok (.iload_n 3, 1) := by decide +kernel
theorem dX6_priceAsked_82 : decode cX6_priceAsked 82 = .ok (.i2l, 1) := by decide +kernel
theorem dX6_priceAsked_83 : decode cX6_priceAsked 83 = .ok (.iload 4, 2) := by decide +kernel
theorem dX6_priceAsked_85 : decode cX6_priceAsked 85 = .ok (.invokestatic 43, 3) := by decide +kernel
theorem dX6_priceAsked_88 : decode cX6_priceAsked 88 = .ok (.lshl, 1) := by decide +kernel
theorem dX6_priceAsked_89 : decode cX6_priceAsked 89 = .ok (.ladd, 1) := by decide +kernel
theorem dX6_priceAsked_90 : decode cX6_priceAsked 90 = .ok (.lastore, 1) := by decide +kernel
theorem dX6_priceAsked_91 : decode cX6_priceAsked 91 = .ok (.iinc 4 1, 3) := by decide +kernel
theorem dX6_priceAsked_94 : decode cX6_priceAsked 94 = .ok (.goto (-81), 3) := by decide +kernel
theorem dX6_priceAsked_97 : decode cX6_priceAsked 97 = .ok (.iinc 3 1, 3) := by decide +kernel
theorem dX6_priceAsked_100 : decode cX6_priceAsked 100 = .ok (.goto (-98), 3) := by decide +kernel
theorem dX6_priceAsked_103 : decode cX6_priceAsked 103 = .ok (.return_, 1) := by decide +kernel
theorem dX6_addShoes_0 : decode cX6_addShoes 0 = .ok (.aload_n 0, 1) := by decide +kernel
theorem dX6_addShoes_1 : decode cX6_addShoes 1 = .ok (.getfield 16, 3) := by decide +kernel
theorem dX6_addShoes_4 : decode cX6_addShoes 4 = .ok (.ldc2_w 41, 3) := by decide +kernel
theorem dX6_addShoes_7 : decode cX6_addShoes 7 = .ok (.invokestatic 73, 3) := by decide +kernel
theorem dX6_addShoes_10 : decode cX6_addShoes 10 = .ok (.aload_n 0, 1) := by decide +kernel
theorem dX6_addShoes_11 : decode cX6_addShoes 11 = .ok (.getfield 16, 3) := by decide +kernel
theorem dX6_addShoes_14 : decode cX6_addShoes 14 = .ok (.iconst 0, 1) := by decide +kernel
theorem dX6_addShoes_15 : decode cX6_addShoes 15 = .ok (.lconst 0, 1) := by decide +kernel
theorem dX6_addShoes_16 : decode cX6_addShoes 16 = .ok (.lastore, 1) := by decide +kernel
theorem dX6_addShoes_17 : decode cX6_addShoes 17 = .ok (.iconst 0, 1) := by decide +kernel
theorem dX6_addShoes_18 : decode cX6_addShoes 18 = .ok (.istore_n 2, 1) := by decide +kernel
theorem dX6_addShoes_19 : decode cX6_addShoes 19 = .ok (.iload_n 2, 1) := by decide +kernel
theorem dX6_addShoes_20 : decode cX6_addShoes 20 = .ok (.aload_n 1, 1) := by decide +kernel
theorem dX6_addShoes_21 : decode cX6_addShoes 21 = .ok (.getfield 58, 3) := by decide +kernel
theorem dX6_addShoes_24 : decode cX6_addShoes 24 = .ok (.if_icmp .ge 23, 3) := by decide +kernel
theorem dX6_addShoes_27 : decode cX6_addShoes 27 = .ok (.aload_n 0, 1) := by decide +kernel
theorem dX6_addShoes_28 : decode cX6_addShoes 28 = .ok (.aload_n 0, 1) := by decide +kernel
theorem dX6_addShoes_29 : decode cX6_addShoes 29 = .ok (.getfield 13, 3) := by decide +kernel
theorem dX6_addShoes_32 : decode cX6_addShoes 32 = .ok (.iload_n 2, 1) := by decide +kernel
theorem dX6_addShoes_33 : decode cX6_addShoes 33 = .ok (.aaload, 1) := by decide +kernel
theorem dX6_addShoes_34 : decode cX6_addShoes 34 = .ok (.aload_n 1, 1) := by decide +kernel
theorem dX6_addShoes_35 : decode cX6_addShoes 35 = .ok (.getfield 36, 3) := by decide +kernel
theorem dX6_addShoes_38 : decode cX6_addShoes 38 = .ok (.invokevirtual 79, 3) := by decide +kernel
theorem dX6_addShoes_41 : decode cX6_addShoes 41 = .ok (.iinc 2 1, 3) := by decide +kernel
theorem dX6_addShoes_44 : decode cX6_addShoes 44 = .ok (.goto (-25), 3) := by decide +kernel
theorem dX6_addShoes_47 : decode cX6_addShoes 47 = .ok (.return_, 1) := by decide +kernel
theorem dX6_addShoe_0 : decode cX6_addShoe 0 = .ok (.iconst 1, 1) := by decide +kernel
theorem dX6_addShoe_1 : decode cX6_addShoe 1 = .ok (.iload_n 2, 1) := by decide +kernel
theorem dX6_addShoe_2 : decode cX6_addShoe 2 = .ok (.ishl, 1) := by decide +kernel
theorem dX6_addShoe_3 : decode cX6_addShoe 3 = .ok (.iconst 1, 1) := by decide +kernel
theorem dX6_addShoe_4 : decode cX6_addShoe 4 = .ok (.isub, 1) := by decide +kernel
theorem dX6_addShoe_5 : decode cX6_addShoe 5 = .ok (.istore_n 3, 1) := by decide +kernel
theorem dX6_addShoe_6 : decode cX6_addShoe 6 = .ok (.iload_n 3, 1) := by decide +kernel
theorem dX6_addShoe_7 : decode cX6_addShoe 7 = .ok (.ifCond .le 119, 3) := by decide +kernel
theorem dX6_addShoe_10 : decode cX6_addShoe 10 = .ok (.iconst 0, 1) := by decide +kernel
theorem dX6_addShoe_11 : decode cX6_addShoe 11 = .ok (.istore 4, 2) := by decide +kernel
theorem dX6_addShoe_13 : decode cX6_addShoe 13 = .ok (.iload 4, 2) := by decide +kernel
theorem dX6_addShoe_15 : decode cX6_addShoe 15 = .ok (.iload_n 2, 1) := by decide +kernel
theorem dX6_addShoe_16 : decode cX6_addShoe 16 = .ok (.if_icmp .ge 104, 3) := by decide +kernel
theorem dX6_addShoe_19 : decode cX6_addShoe 19 = .ok (.iload_n 3, 1) := by decide +kernel
theorem dX6_addShoe_20 : decode cX6_addShoe 20 = .ok (.iload 4, 2) := by decide +kernel
theorem dX6_addShoe_22 : decode cX6_addShoe 22 = .ok (.ishr, 1) := by decide +kernel
theorem dX6_addShoe_23 : decode cX6_addShoe 23 = .ok (.iconst 1, 1) := by decide +kernel
theorem dX6_addShoe_24 : decode cX6_addShoe 24 = .ok (.iand, 1) := by decide +kernel
theorem dX6_addShoe_25 : decode cX6_addShoe 25 = .ok (.iconst 1, 1) := by decide +kernel
theorem dX6_addShoe_26 : decode cX6_addShoe 26 = .ok (.if_icmp .ne 17, 3) := by decide +kernel
theorem dX6_addShoe_29 : decode cX6_addShoe 29 = .ok (.aload_n 0, 1) := by decide +kernel
theorem dX6_addShoe_30 : decode cX6_addShoe 30 = .ok (.getfield 16, 3) := by decide +kernel
theorem dX6_addShoe_33 : decode cX6_addShoe 33 = .ok (.iload_n 3, 1) := by decide +kernel
theorem dX6_addShoe_34 : decode cX6_addShoe 34 = .ok (.iconst 1, 1) := by decide +kernel
theorem dX6_addShoe_35 : decode cX6_addShoe 35 = .ok (.iload 4, 2) := by decide +kernel
theorem dX6_addShoe_37 : decode cX6_addShoe 37 = .ok (.ishl, 1) := by decide +kernel
theorem dX6_addShoe_38 : decode cX6_addShoe 38 = .ok (.ixor, 1) := by decide +kernel
theorem dX6_addShoe_39 : decode cX6_addShoe 39 = .ok (.laload, 1) := by decide +kernel
theorem dX6_addShoe_40 : decode cX6_addShoe 40 = .ok (.goto 6, 3) := by decide +kernel
theorem dX6_addShoe_43 : decode cX6_addShoe 43 = .ok (.ldc2_w 41, 3) := by decide +kernel
theorem dX6_addShoe_46 : decode cX6_addShoe 46 = .ok (.lstore 5, 2) := by decide +kernel
theorem dX6_addShoe_48 : decode cX6_addShoe 48 = .ok (.lload 5, 2) := by decide +kernel
theorem dX6_addShoe_50 : decode cX6_addShoe 50 = .ok (.ldc2_w 41, 3) := by decide +kernel
theorem dX6_addShoe_53 : decode cX6_addShoe 53 = .ok (.lcmp, 1) := by decide +kernel
theorem dX6_addShoe_54 : decode cX6_addShoe 54 = .ok (.ifCond .eq 60, 3) := by decide +kernel
theorem dX6_addShoe_57 : decode cX6_addShoe 57 = .ok (.aload_n 1, 1) := by decide +kernel
theorem dX6_addShoe_58 : decode cX6_addShoe 58 = .ok (.iload 4, 2) := by decide +kernel
theorem dX6_addShoe_60 : decode cX6_addShoe 60 = .ok (.laload, 1) := by decide +kernel
theorem dX6_addShoe_61 : decode cX6_addShoe 61 = .ok (.ldc2_w 41, 3) := by decide +kernel
theorem dX6_addShoe_64 : decode cX6_addShoe 64 = .ok (.lcmp, 1) := by decide +kernel
theorem dX6_addShoe_65 : decode cX6_addShoe 65 = .ok (.ifCond .ne 6, 3) := by decide +kernel
theorem dX6_addShoe_68 : decode cX6_addShoe 68 = .ok (.goto 46, 3) := by decide +kernel
theorem dX6_addShoe_71 : decode cX6_addShoe 71 = .ok (.aload_n 0, 1) := by decide +kernel
theorem dX6_addShoe_72 : decode cX6_addShoe 72 = .ok (.getfield 16, 3) := by decide +kernel
theorem dX6_addShoe_75 : decode cX6_addShoe 75 = .ok (.iload_n 3, 1) := by decide +kernel
theorem dX6_addShoe_76 : decode cX6_addShoe 76 = .ok (.laload, 1) := by decide +kernel
theorem dX6_addShoe_77 : decode cX6_addShoe 77 = .ok (.ldc2_w 41, 3) := by decide +kernel
theorem dX6_addShoe_80 : decode cX6_addShoe 80 = .ok (.lcmp, 1) := by decide +kernel
theorem dX6_addShoe_81 : decode cX6_addShoe 81 = .ok (.ifCond .eq 20, 3) := by decide +kernel
theorem dX6_addShoe_84 : decode cX6_addShoe 84 = .ok (.lload 5, 2) := by decide +kernel
theorem dX6_addShoe_86 : decode cX6_addShoe 86 = .ok (.aload_n 1, 1) := by decide +kernel
theorem dX6_addShoe_87 : decode cX6_addShoe 87 = .ok (.iload 4, 2) := by decide +kernel
theorem dX6_addShoe_89 : decode cX6_addShoe 89 = .ok (.laload, 1) := by decide +kernel
theorem dX6_addShoe_90 : decode cX6_addShoe 90 = .ok (.ladd, 1) := by decide +kernel
theorem dX6_addShoe_91 : decode cX6_addShoe 91 = .ok (.aload_n 0, 1) := by decide +kernel
theorem dX6_addShoe_92 : decode cX6_addShoe 92 = .ok (.getfield 16, 3) := by decide +kernel
theorem dX6_addShoe_95 : decode cX6_addShoe 95 = .ok (.iload_n 3, 1) := by decide +kernel
theorem dX6_addShoe_96 : decode cX6_addShoe 96 = .ok (.laload, 1) := by decide +kernel
theorem dX6_addShoe_97 : decode cX6_addShoe 97 = .ok (.lcmp, 1) := by decide +kernel
theorem dX6_addShoe_98 : decode cX6_addShoe 98 = .ok (.ifCond .ge 16, 3) := by decide +kernel
theorem dX6_addShoe_101 : decode cX6_addShoe 101 = .ok (.aload_n 0, 1) := by decide +kernel
theorem dX6_addShoe_102 : decode cX6_addShoe 102 = .ok (.getfield 16, 3) := by decide +kernel
theorem dX6_addShoe_105 : decode cX6_addShoe 105 = .ok (.iload_n 3, 1) := by decide +kernel
theorem dX6_addShoe_106 : decode cX6_addShoe 106 = .ok (.lload 5, 2) := by decide +kernel
theorem dX6_addShoe_108 : decode cX6_addShoe 108 = .ok (.aload_n 1, 1) := by decide +kernel
theorem dX6_addShoe_109 : decode cX6_addShoe 109 = .ok (.iload 4, 2) := by decide +kernel
