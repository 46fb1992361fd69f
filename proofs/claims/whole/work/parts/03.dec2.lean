theorem dX8_init_0 : decode cX8_init 0 = .ok (.aload_n 0, 1) := by decide +kernel
theorem dX8_init_1 : decode cX8_init 1 = .ok (.invokespecial 3, 3) := by decide +kernel
theorem dX8_init_4 : decode cX8_init 4 = .ok (.aload_n 0, 1) := by decide +kernel
theorem dX8_init_5 : decode cX8_init 5 = .ok (.bipush 6, 2) := by decide +kernel
theorem dX8_init_7 : decode cX8_init 7 = .ok (.newarray .int, 2) := by decide +kernel
theorem dX8_init_9 : decode cX8_init 9 = .ok (.putfield 9, 3) := by decide +kernel
theorem dX8_init_12 : decode cX8_init 12 = .ok (.aload_n 0, 1) := by decide +kernel
theorem dX8_init_13 : decode cX8_init 13 = .ok (.bipush 6, 2) := by decide +kernel
theorem dX8_init_15 : decode cX8_init 15 = .ok (.newarray .int, 2) := by decide +kernel
theorem dX8_init_17 : decode cX8_init 17 = .ok (.putfield 15, 3) := by decide +kernel
theorem dX8_init_20 : decode cX8_init 20 = .ok (.aload_n 0, 1) := by decide +kernel
theorem dX8_init_21 : decode cX8_init 21 = .ok (.bipush 6, 2) := by decide +kernel
theorem dX8_init_23 : decode cX8_init 23 = .ok (.newarray .int, 2) := by decide +kernel
theorem dX8_init_25 : decode cX8_init 25 = .ok (.putfield 18, 3) := by decide +kernel
theorem dX8_init_28 : decode cX8_init 28 = .ok (.aload_n 0, 1) := by decide +kernel
theorem dX8_init_29 : decode cX8_init 29 = .ok (.bipush 6, 2) := by decide +kernel
theorem dX8_init_31 : decode cX8_init 31 = .ok (.newarray .int, 2) := by decide +kernel
theorem dX8_init_33 : decode cX8_init 33 = .ok (.putfield 21, 3) := by decide +kernel
theorem dX8_init_36 : decode cX8_init 36 = .ok (.return_, 1) := by decide +kernel
theorem dX8_add_0 : decode cX8_add 0 = .ok (.aload_n 0, 1) := by decide +kernel
theorem dX8_add_1 : decode cX8_add 1 = .ok (.getfield 24, 3) := by decide +kernel
theorem dX8_add_4 : decode cX8_add 4 = .ok (.bipush 6, 2) := by decide +kernel
theorem dX8_add_6 : decode cX8_add 6 = .ok (.if_icmp .ge 54, 3) := by decide +kernel
theorem dX8_add_9 : decode cX8_add 9 = .ok (.aload_n 0, 1) := by decide +kernel
theorem dX8_add_10 : decode cX8_add 10 = .ok (.getfield 9, 3) := by decide +kernel
theorem dX8_add_13 : decode cX8_add 13 = .ok (.aload_n 0, 1) := by decide +kernel
theorem dX8_add_14 : decode cX8_add 14 = .ok (.getfield 24, 3) := by decide +kernel
theorem dX8_add_17 : decode cX8_add 17 = .ok (.iload_n 1, 1) := by decide +kernel
theorem dX8_add_18 : decode cX8_add 18 = .ok (.iastore, 1) := by decide +kernel
theorem dX8_add_19 : decode cX8_add 19 = .ok (.aload_n 0, 1) := by decide +kernel
theorem dX8_add_20 : decode cX8_add 20 = .ok (.getfield 15, 3) := by decide +kernel
theorem dX8_add_23 : decode cX8_add 23 = .ok (.aload_n 0, 1) := by decide +kernel
theorem dX8_add_24 : decode cX8_add 24 = .ok (.getfield 24, 3) := by decide +kernel
theorem dX8_add_27 : decode cX8_add 27 = .ok (.iload_n 2, 1) := by decide +kernel
theorem dX8_add_28 : decode cX8_add 28 = .ok (.iastore, 1) := by decide +kernel
theorem dX8_add_29 : decode cX8_add 29 = .ok (.aload_n 0, 1) := by decide +kernel
theorem dX8_add_30 : decode cX8_add 30 = .ok (.getfield 18, 3) := by decide +kernel
theorem dX8_add_33 : decode cX8_add 33 = .ok (.aload_n 0, 1) := by decide +kernel
theorem dX8_add_34 : decode cX8_add 34 = .ok (.getfield 24, 3) := by decide +kernel
theorem dX8_add_37 : decode cX8_add 37 = .ok (.iload_n 3, 1) := by decide +kernel
theorem dX8_add_38 : decode cX8_add 38 = .ok (.iastore, 1) := by decide +kernel
theorem dX8_add_39 : decode cX8_add 39 = .ok (.aload_n 0, 1) := by decide +kernel
theorem dX8_add_40 : decode cX8_add 40 = .ok (.getfield 21, 3) := by decide +kernel
theorem dX8_add_43 : decode cX8_add 43 = .ok (.aload_n 0, 1) := by decide +kernel
theorem dX8_add_44 : decode cX8_add 44 = .ok (.getfield 24, 3) := by decide +kernel
theorem dX8_add_47 : decode cX8_add 47 = .ok (.iload 4, 2) := by decide +kernel
theorem dX8_add_49 : decode cX8_add 49 = .ok (.iastore, 1) := by decide +kernel
theorem dX8_add_50 : decode cX8_add 50 = .ok (.aload_n 0, 1) := by decide +kernel
theorem dX8_add_51 : decode cX8_add 51 = .ok (.dup, 1) := by decide +kernel
theorem dX8_add_52 : decode cX8_add 52 = .ok (.getfield 24, 3) := by decide +kernel
theorem dX8_add_55 : decode cX8_add 55 = .ok (.iconst 1, 1) := by decide +kernel
theorem dX8_add_56 : decode cX8_add 56 = .ok (.iadd, 1) := by decide +kernel
theorem dX8_add_57 : decode cX8_add 57 = .ok (.putfield 24, 3) := by decide +kernel
theorem dX8_add_60 : decode cX8_add 60 = .ok (.return_, 1) := by decide +kernel
theorem dX8_take_0 : decode cX8_take 0 = .ok (.aload_n 0, 1) := by decide +kernel
theorem dX8_take_1 : decode cX8_take 1 = .ok (.aload_n 1, 1) := by decide +kernel
theorem dX8_take_2 : decode cX8_take 2 = .ok (.getfield 24, 3) := by decide +kernel
theorem dX8_take_5 : decode cX8_take 5 = .ok (.putfield 24, 3) := by decide +kernel
theorem dX8_take_8 : decode cX8_take 8 = .ok (.aload_n 1, 1) := by decide +kernel
theorem dX8_take_9 : decode cX8_take 9 = .ok (.getfield 9, 3) := by decide +kernel
theorem dX8_take_12 : decode cX8_take 12 = .ok (.iconst 0, 1) := by decide +kernel
theorem dX8_take_13 : decode cX8_take 13 = .ok (.aload_n 0, 1) := by decide +kernel
theorem dX8_take_14 : decode cX8_take 14 = .ok (.getfield 9, 3) := by decide +kernel
theorem dX8_take_17 : decode cX8_take 17 = .ok (.iconst 0, 1) := by decide +kernel
theorem dX8_take_18 : decode cX8_take 18 = .ok (.bipush 6, 2) := by decide +kernel
theorem dX8_take_20 : decode cX8_take 20 = .ok (.invokestatic 28, 3) := by decide +kernel
theorem dX8_take_23 : decode cX8_take 23 = .ok (.aload_n 1, 1) := by decide +kernel
theorem dX8_take_24 : decode cX8_take 24 = .ok (.getfield 15, 3) := by decide +kernel
theorem dX8_take_27 : decode cX8_take 27 = .ok (.iconst 0, 1) := by decide +kernel
theorem dX8_take_28 : decode cX8_take 28 = .ok (.aload_n 0, 1) := by decide +kernel
theorem dX8_take_29 : decode cX8_take 29 = .ok (.getfield 15, 3) := by decide +kernel
theorem dX8_take_32 : decode cX8_take 32 = .ok (.iconst 0, 1) := by decide +kernel
theorem dX8_take_33 : decode cX8_take 33 = .ok (.bipush 6, 2) := by decide +kernel
theorem dX8_take_35 : decode cX8_take 35 = .ok (.invokestatic 28, 3) := by decide +kernel
theorem dX8_take_38 : decode cX8_take 38 = .ok (.aload_n 1, 1) := by decide +kernel
theorem dX8_take_39 : decode cX8_take 39 = .ok (.getfield 18, 3) := by decide +kernel
theorem dX8_take_42 : decode cX8_take 42 = .ok (.iconst 0, 1) := by decide +kernel
theorem dX8_take_43 : decode cX8_take 43 = .ok (.aload_n 0, 1) := by decide +kernel
theorem dX8_take_44 : decode cX8_take 44 = .ok (.getfield 18, 3) := by decide +kernel
theorem dX8_take_47 : decode cX8_take 47 = .ok (.iconst 0, 1) := by decide +kernel
theorem dX8_take_48 : decode cX8_take 48 = .ok (.bipush 6, 2) := by decide +kernel
theorem dX8_take_50 : decode cX8_take 50 = .ok (.invokestatic 28, 3) := by decide +kernel
theorem dX8_take_53 : decode cX8_take 53 = .ok (.aload_n 1, 1) := by decide +kernel
theorem dX8_take_54 : decode cX8_take 54 = .ok (.getfield 21, 3) := by decide +kernel
theorem dX8_take_57 : decode cX8_take 57 = .ok (.iconst 0, 1) := by decide +kernel
theorem dX8_take_58 : decode cX8_take 58 = .ok (.aload_n 0, 1) := by decide +kernel
theorem dX8_take_59 : decode cX8_take 59 = .ok (.getfield 21, 3) := by decide +kernel
theorem dX8_take_62 : decode cX8_take 62 = .ok (.iconst 0, 1) := by decide +kernel
theorem dX8_take_63 : decode cX8_take 63 = .ok (.bipush 6, 2) := by decide +kernel
theorem dX8_take_65 : decode cX8_take 65 = .ok (.invokestatic 28, 3) := by decide +kernel
theorem dX8_take_68 : decode cX8_take 68 = .ok (.return_, 1) := by decide +kernel
theorem dX8_allCarry_0 : decode cX8_allCarry 0 = .ok (.aload_n 0, 1) := by decide +kernel
theorem dX8_allCarry_1 : decode cX8_allCarry 1 = .ok (.getfield 18, 3) := by decide +kernel
theorem dX8_allCarry_4 : decode cX8_allCarry 4 = .ok (.iload_n 1, 1) := by decide +kernel
theorem dX8_allCarry_5 : decode cX8_allCarry 5 = .ok (.invokestatic 34, 3) := by decide +kernel
theorem dX8_allCarry_8 : decode cX8_allCarry 8 = .ok (.return_, 1) := by decide +kernel
theorem dX9_init_0 : decode cX9_init 0 = .ok (.aload_n 0, 1) := by decide +kernel
theorem dX9_init_1 : decode cX9_init 1 = .ok (.invokespecial 3, 3) := by decide +kernel
theorem dX9_init_4 : decode cX9_init 4 = .ok (.aload_n 0, 1) := by decide +kernel
theorem dX9_init_5 : decode cX9_init 5 = .ok (.bipush 7, 2) := by decide +kernel
theorem dX9_init_7 : decode cX9_init 7 = .ok (.newarray .int, 2) := by decide +kernel
theorem dX9_init_9 : decode cX9_init 9 = .ok (.putfield 9, 3) := by decide +kernel
theorem dX9_init_12 : decode cX9_init 12 = .ok (.aload_n 0, 1) := by decide +kernel
theorem dX9_init_13 : decode cX9_init 13 = .ok (.bipush 10, 2) := by decide +kernel
theorem dX9_init_15 : decode cX9_init 15 = .ok (.newarray .int, 2) := by decide +kernel
theorem dX9_init_17 : decode cX9_init 17 = .ok (.putfield 15, 3) := by decide +kernel
theorem dX9_init_20 : decode cX9_init 20 = .ok (.aload_n 0, 1) := by decide +kernel
theorem dX9_init_21 : decode cX9_init 21 = .ok (.bipush 7, 2) := by decide +kernel
theorem dX9_init_23 : decode cX9_init 23 = .ok (.newarray .int, 2) := by decide +kernel
theorem dX9_init_25 : decode cX9_init 25 = .ok (.putfield 18, 3) := by decide +kernel
theorem dX9_init_28 : decode cX9_init 28 = .ok (.aload_n 0, 1) := by decide +kernel
theorem dX9_init_29 : decode cX9_init 29 = .ok (.aload_n 1, 1) := by decide +kernel
theorem dX9_init_30 : decode cX9_init 30 = .ok (.putfield 21, 3) := by decide +kernel
theorem dX9_init_33 : decode cX9_init 33 = .ok (.aload_n 0, 1) := by decide +kernel
theorem dX9_init_34 : decode cX9_init 34 = .ok (.aload_n 2, 1) := by decide +kernel
theorem dX9_init_35 : decode cX9_init 35 = .ok (.putfield 25, 3) := by decide +kernel
theorem dX9_init_38 : decode cX9_init 38 = .ok (.return_, 1) := by decide +kernel
theorem dX9_setPrices_0 : decode cX9_setPrices 0 = .ok (.iconst 0, 1) := by decide +kernel
theorem dX9_setPrices_1 : decode cX9_setPrices 1 = .ok (.istore_n 2, 1) := by decide +kernel
theorem dX9_setPrices_2 : decode cX9_setPrices 2 = .ok (.iload_n 2, 1) := by decide +kernel
theorem dX9_setPrices_3 : decode cX9_setPrices 3 = .ok (.aload_n 0, 1) := by decide +kernel
theorem dX9_setPrices_4 : decode cX9_setPrices 4 = .ok (.getfield 21, 3) := by decide +kernel
theorem dX9_setPrices_7 : decode cX9_setPrices 7 = .ok (.getfield 29, 3) := by decide +kernel
theorem dX9_setPrices_10 : decode cX9_setPrices 10 = .ok (.if_icmp .ge 45, 3) := by decide +kernel
theorem dX9_setPrices_13 : decode cX9_setPrices 13 = .ok (.aload_n 0, 1) := by decide +kernel
theorem dX9_setPrices_14 : decode cX9_setPrices 14 = .ok (.getfield 15, 3) := by decide +kernel
theorem dX9_setPrices_17 : decode cX9_setPrices 17 = .ok (.iload_n 2, 1) := by decide +kernel
theorem dX9_setPrices_18 : decode cX9_setPrices 18 = .ok (.aload_n 0, 1) := by decide +kernel
theorem dX9_setPrices_19 : decode cX9_setPrices 19 = .ok (.getfield 25, 3) := by decide +kernel
theorem dX9_setPrices_22 : decode cX9_setPrices 22 = .ok (.iload_n 2, 1) := by decide +kernel
theorem dX9_setPrices_23 : decode cX9_setPrices 23 = .ok (.invokevirtual 35, 3) := by decide +kernel
theorem dX9_setPrices_26 : decode cX9_setPrices 26 = .ok (.ifCond .eq 8, 3) := by decide +kernel
theorem dX9_setPrices_29 : decode cX9_setPrices 29 = .ok (.ldc 41, 2) := by decide +kernel
theorem dX9_setPrices_31 : decode cX9_setPrices 31 = .ok (.goto 17, 3) := by decide +kernel
theorem dX9_setPrices_34 : decode cX9_setPrices 34 = .ok (.aload_n 0, 1) := by decide +kernel
theorem dX9_setPrices_35 : decode cX9_setPrices 35 = .ok (.getfield 25, 3) := by decide +kernel
theorem dX9_setPrices_38 : decode cX9_setPrices 38 = .ok (.iload_n 2, 1) := by decide +kernel
theorem dX9_setPrices_39 : decode cX9_setPrices 39 = .ok (.iload_n 1, 1) := by decide +kernel
theorem dX9_setPrices_40 : decode cX9_setPrices 40 = .ok (.invokevirtual 42, 3) := by decide +kernel
theorem dX9_setPrices_43 : decode cX9_setPrices 43 = .ok (.bipush 16, 2) := by decide +kernel
theorem dX9_setPrices_45 : decode cX9_setPrices 45 = .ok (.imul, 1) := by decide +kernel
theorem dX9_setPrices_46 : decode cX9_setPrices 46 = .ok (.iconst 1, 1) := by decide +kernel
theorem dX9_setPrices_47 : decode cX9_setPrices 47 = .ok (.iadd, 1) := by decide +kernel
theorem dX9_setPrices_48 : decode cX9_setPrices 48 = .ok (.iastore, 1) := by decide +kernel
theorem dX9_setPrices_49 : decode cX9_setPrices 49 = .ok (.iinc 2 1, 3) := by decide +kernel
theorem dX9_setPrices_52 : decode cX9_setPrices 52 = .ok (.goto (-50), 3) := by decide +kernel
theorem dX9_setPrices_55 : decode cX9_setPrices 55 = .ok (.return_, 1) := by decide +kernel
theorem dX9_find_0 : decode cX9_find 0 = .ok (.aload_n 0, 1) := by decide +kernel
theorem dX9_find_1 : decode cX9_find 1 = .ok (.iconst 0, 1) := by decide +kernel
theorem dX9_find_2 : decode cX9_find 2 = .ok (.putfield 46, 3) := by decide +kernel
theorem dX9_find_5 : decode cX9_find 5 = .ok (.aload_n 0, 1) := by decide +kernel
theorem dX9_find_6 : decode cX9_find 6 = .ok (.getfield 18, 3) := by decide +kernel
theorem dX9_find_9 : decode cX9_find 9 = .ok (.ldc 41, 2) := by decide +kernel
theorem dX9_find_11 : decode cX9_find 11 = .ok (.invokestatic 49, 3) := by decide +kernel
theorem dX9_find_14 : decode cX9_find 14 = .ok (.aload_n 0, 1) := by decide +kernel
theorem dX9_find_15 : decode cX9_find 15 = .ok (.getfield 18, 3) := by decide +kernel
theorem dX9_find_18 : decode cX9_find 18 = .ok (.iload_n 2, 1) := by decide +kernel
theorem dX9_find_19 : decode cX9_find 19 = .ok (.iconst 0, 1) := by decide +kernel
theorem dX9_find_20 : decode cX9_find 20 = .ok (.iastore, 1) := by decide +kernel
theorem dX9_find_21 : decode cX9_find 21 = .ok (.iconst 1, 1) := by decide +kernel
theorem dX9_find_22 : decode cX9_find 22 = .ok (.istore_n 3, 1) := by decide +kernel
theorem dX9_find_23 : decode cX9_find 23 = .ok (.iconst 0, 1) := by decide +kernel
theorem dX9_find_24 : decode cX9_find 24 = .ok (.istore 4, 2) := by decide +kernel
theorem dX9_find_26 : decode cX9_find 26 = .ok (.iload 4, 2) := by decide +kernel
theorem dX9_find_28 : decode cX9_find 28 = .ok (.bipush 7, 2) := by decide +kernel
theorem dX9_find_30 : decode cX9_find 30 = .ok (.if_icmp .ge 18, 3) := by decide +kernel
theorem dX9_find_33 : decode cX9_find 33 = .ok (.iload_n 3, 1) := by decide +kernel
theorem dX9_find_34 : decode cX9_find 34 = .ok (.ifCond .eq 14, 3) := by decide +kernel
theorem dX9_find_37 : decode cX9_find 37 = .ok (.aload_n 0, 1) := by decide +kernel
theorem dX9_find_38 : decode cX9_find 38 = .ok (.invokevirtual 55, 3) := by decide +kernel
theorem dX9_find_41 : decode cX9_find 41 = .ok (.istore_n 3, 1) := by decide +kernel
theorem dX9_find_42 : decode cX9_find 42 = .ok (.iinc 4 1, 3) := by decide +kernel
theorem dX9_find_45 : decode cX9_find 45 = .ok (.goto (-19), 3) := by decide +kernel
theorem dX9_find_48 : decode cX9_find 48 = .ok (.aload_n 0, 1) := by decide +kernel
theorem dX9_find_49 : decode cX9_find 49 = .ok (.aload_n 0, 1) := by decide +kernel
theorem dX9_find_50 : decode cX9_find 50 = .ok (.getfield 18, 3) := by decide +kernel
theorem dX9_find_53 : decode cX9_find 53 = .ok (.iload_n 1, 1) := by decide +kernel
theorem dX9_find_54 : decode cX9_find 54 = .ok (.iaload, 1) := by decide +kernel
theorem dX9_find_55 : decode cX9_find 55 = .ok (.bipush 16, 2) := by decide +kernel
theorem dX9_find_57 : decode cX9_find 57 = .ok (.idiv, 1) := by decide +kernel
theorem dX9_find_58 : decode cX9_find 58 = .ok (.putfield 59, 3) := by decide +kernel
theorem dX9_find_61 : decode cX9_find 61 = .ok (.aload_n 0, 1) := by decide +kernel
theorem dX9_find_62 : decode cX9_find 62 = .ok (.getfield 18, 3) := by decide +kernel
theorem dX9_find_65 : decode cX9_find 65 = .ok (.iload_n 1, 1) := by decide +kernel
theorem dX9_find_66 : decode cX9_find 66 = .ok (.iaload, 1) := by decide +kernel
theorem dX9_find_67 : decode cX9_find 67 = .ok (.ldc 41, 2) := by decide +kernel
theorem dX9_find_69 : decode cX9_find 69 = .ok (.if_icmp .ge 7, 3) := by decide +kernel
theorem dX9_find_72 : decode cX9_find 72 = .ok (.iload_n 1, 1) := by decide +kernel
theorem dX9_find_73 : decode cX9_find 73 = .ok (.goto 4, 3) := by decide +kernel
theorem dX9_find_76 : decode cX9_find 76 = .ok (.iconst (-1), 1) := by decide +kernel
theorem dX9_find_77 : decode cX9_find 77 = .ok (.istore 4, 2) := by decide +kernel
theorem dX9_find_79 : decode cX9_find 79 = .ok (.iload 4, 2) := by decide +kernel
theorem dX9_find_81 : decode cX9_find 81 = .ok (.iconst (-1), 1) := by decide +kernel
theorem dX9_find_82 : decode cX9_find 82 = .ok (.if_icmp .eq 73, 3) := by decide +kernel
theorem dX9_find_85 : decode cX9_find 85 = .ok (.iload 4, 2) := by decide +kernel
theorem dX9_find_87 : decode cX9_find 87 = .ok (.iload_n 2, 1) := by decide +kernel
theorem dX9_find_88 : decode cX9_find 88 = .ok (.if_icmp .eq 67, 3) := by decide +kernel
theorem dX9_find_91 : decode cX9_find 91 = .ok (.aload_n 0, 1) := by decide +kernel
theorem dX9_find_92 : decode cX9_find 92 = .ok (.getfield 46, 3) := by decide +kernel
theorem dX9_find_95 : decode cX9_find 95 = .ok (.bipush 7, 2) := by decide +kernel
theorem dX9_find_97 : decode cX9_find 97 = .ok (.if_icmp .ge 58, 3) := by decide +kernel
theorem dX9_find_100 : decode cX9_find 100 = .ok (.aload_n 0, 1) := by decide +kernel
theorem dX9_find_101 : decode cX9_find 101 = .ok (.iload 4, 2) := by decide +kernel
theorem dX9_find_103 : decode cX9_find 103 = .ok (.invokevirtual 62, 3) := by decide +kernel
theorem dX9_find_106 : decode cX9_find 106 = .ok (.istore 5, 2) := by decide +kernel
theorem dX9_find_108 : decode cX9_find 108 = .ok (.aload_n 0, 1) := by decide +kernel
theorem dX9_find_109 : decode cX9_find 109 = .ok (.getfield 9, 3) := by decide +kernel
theorem dX9_find_112 : decode cX9_find 112 = .ok (.aload_n 0, 1) := by decide +kernel
theorem dX9_find_113 : decode cX9_find 113 = .ok (.getfield 46, 3) := by decide +kernel
theorem dX9_find_116 : decode cX9_find 116 = .ok (.iload 5, 2) := by decide +kernel
theorem dX9_find_118 : decode cX9_find 118 = .ok (.iastore, 1) := by decide +kernel
theorem dX9_find_119 : decode cX9_find 119 = .ok (.aload_n 0, 1) := by decide +kernel
theorem dX9_find_120 : decode cX9_find 120 = .ok (.dup, 1) := by decide +kernel
theorem dX9_find_121 : decode cX9_find 121 = .ok (.getfield 46, 3) := by decide +kernel
theorem dX9_find_124 : decode cX9_find 124 = .ok (.iconst 1, 1) := by decide +kernel
theorem dX9_find_125 : decode cX9_find 125 = .ok (.iadd, 1) := by decide +kernel
theorem dX9_find_126 : decode cX9_find 126 = .ok (.putfield 46, 3) := by decide +kernel
theorem dX9_find_129 : decode cX9_find 129 = .ok (.iload 5, 2) := by decide +kernel
theorem dX9_find_131 : decode cX9_find 131 = .ok (.iconst (-1), 1) := by decide +kernel
theorem dX9_find_132 : decode cX9_find 132 = .ok (.if_icmp .ne 7, 3) := by decide +kernel
theorem dX9_find_135 : decode cX9_find 135 = .ok (.iconst (-1), 1) := by decide +kernel
theorem dX9_find_136 : decode cX9_find 136 = .ok (.goto 14, 3) := by decide +kernel
theorem dX9_find_139 : decode cX9_find 139 = .ok (.aload_n 0, 1) := by decide +kernel
theorem dX9_find_140 : decode cX9_find 140 = .ok (.getfield 21, 3) := by decide +kernel
theorem dX9_find_143 : decode cX9_find 143 = .ok (.iload 5, 2) := by decide +kernel
theorem dX9_find_145 : decode cX9_find 145 = .ok (.iload 4, 2) := by decide +kernel
theorem dX9_find_147 : decode cX9_find 147 = .ok (.invokevirtual 66, 3) := by decide +kernel
theorem dX9_find_150 : decode cX9_find 150 = .ok (.istore 4, 2) := by decide +kernel
theorem dX9_find_152 : decode cX9_find 152 = .ok (.goto (-73), 3) := by decide +kernel
theorem dX9_find_155 : decode cX9_find 155 = .ok (.iload 4, 2) := by decide +kernel
theorem dX9_find_157 : decode cX9_find 157 = .ok (.iload_n 2, 1) := by decide +kernel
theorem dX9_find_158 : decode cX9_find 158 = .ok (.if_icmp .ne 7, 3) := by decide +kernel
theorem dX9_find_161 : decode cX9_find 161 = .ok (.iconst 1, 1) := by decide +kernel
theorem dX9_find_162 : decode cX9_find 162 = .ok (.goto 4, 3) := by decide +kernel
theorem dX9_find_165 : decode cX9_find 165 = .ok (.iconst 0, 1) := by decide +kernel
theorem dX9_find_166 : decode cX9_find 166 = .ok (.ireturn, 1) := by decide +kernel
theorem dX9_improve_0 : decode cX9_improve 0 = .ok (.iconst 0, 1) := by decide +kernel
theorem dX9_improve_1 : decode cX9_improve 1 = .ok (.istore_n 1, 1) := by decide +kernel
theorem dX9_improve_2 : decode cX9_improve 2 = .ok (.iconst 0, 1) := by decide +kernel
theorem dX9_improve_3 : decode cX9_improve 3 = .ok (.istore_n 2, 1) := by decide +kernel
theorem dX9_improve_4 : decode cX9_improve 4 = .ok (.iload_n 2, 1) := by decide +kernel
theorem dX9_improve_5 : decode cX9_improve 5 = .ok (.aload_n 0, 1) := by decide +kernel
theorem dX9_improve_6 : decode cX9_improve 6 = .ok (.getfield 21, 3) := by decide +kernel
theorem dX9_improve_9 : decode cX9_improve 9 = .ok (.getfield 29, 3) := by decide +kernel
theorem dX9_improve_12 : decode cX9_improve 12 = .ok (.if_icmp .ge 123, 3) := by decide +kernel
theorem dX9_improve_15 : decode cX9_improve 15 = .ok (.aload_n 0, 1) := by decide +kernel
theorem dX9_improve_16 : decode cX9_improve 16 = .ok (.getfield 21, 3) := by decide +kernel
theorem dX9_improve_19 : decode cX9_improve 19 = .ok (.getfield 69, 3) := by decide +kernel
theorem dX9_improve_22 : decode cX9_improve 22 = .ok (.iload_n 2, 1) := by decide +kernel
theorem dX9_improve_23 : decode cX9_improve 23 = .ok (.iaload, 1) := by decide +kernel
theorem dX9_improve_24 : decode cX9_improve 24 = .ok (.istore_n 3, 1) := by decide +kernel
theorem dX9_improve_25 : decode cX9_improve 25 = .ok (.aload_n 0, 1) := by decide +kernel
theorem dX9_improve_26 : decode cX9_improve 26 = .ok (.getfield 21, 3) := by decide +kernel
theorem dX9_improve_29 : decode cX9_improve 29 = .ok (.getfield 72, 3) := by decide +kernel
theorem dX9_improve_32 : decode cX9_improve 32 = .ok (.iload_n 2, 1) := by decide +kernel
theorem dX9_improve_33 : decode cX9_improve 33 = .ok (.iaload, 1) := by decide +kernel
theorem dX9_improve_34 : decode cX9_improve 34 = .ok (.istore 4, 2) := by decide +kernel
theorem dX9_improve_36 : decode cX9_improve 36 = .ok (.aload_n 0, 1) := by decide +kernel
theorem dX9_improve_37 : decode cX9_improve 37 = .ok (.getfield 18, 3) := by decide +kernel
theorem dX9_improve_40 : decode cX9_improve 40 = .ok (.iload 4, 2) := by decide +kernel
theorem dX9_improve_42 : decode cX9_improve 42 = .ok (.iaload, 1) := by decide +kernel
theorem dX9_improve_43 : decode cX9_improve 43 = .ok (.aload_n 0, 1) := by decide +kernel
theorem dX9_improve_44 : decode cX9_improve 44 = .ok (.getfield 15, 3) := by decide +kernel
theorem dX9_improve_47 : decode cX9_improve 47 = .ok (.iload_n 2, 1) := by decide +kernel
theorem dX9_improve_48 : decode cX9_improve 48 = .ok (.iaload, 1) := by decide +kernel
theorem dX9_improve_49 : decode cX9_improve 49 = .ok (.iadd, 1) := by decide +kernel
theorem dX9_improve_50 : decode cX9_improve 50 = .ok (.aload_n 0, 1) := by decide +kernel
theorem dX9_improve_51 : decode cX9_improve 51 = .ok (.getfield 18, 3) := by decide +kernel
theorem dX9_improve_54 : decode cX9_improve 54 = .ok (.iload_n 3, 1) := by decide +kernel
theorem dX9_improve_55 : decode cX9_improve 55 = .ok (.iaload, 1) := by decide +kernel
theorem dX9_improve_56 : decode cX9_improve 56 = .ok (.if_icmp .ge 28, 3) := by decide +kernel
theorem dX9_improve_59 : decode cX9_improve 59 = .ok (.aload_n 0, 1) := by decide +kernel
theorem dX9_improve_60 : decode cX9_improve 60 = .ok (.getfield 18, 3) := by decide +kernel
theorem dX9_improve_63 : decode cX9_improve 63 = .ok (.iload_n 3, 1) := by decide +kernel
theorem dX9_improve_64 : decode cX9_improve 64 = .ok (.aload_n 0, 1) := by decide +kernel
theorem dX9_improve_65 : decode cX9_improve 65 = .ok (.getfield 18, 3) := by decide +kernel
theorem dX9_improve_68 : decode cX9_improve 68 = .ok (.iload 4, 2) := by decide +kernel
theorem dX9_improve_70 : decode cX9_improve 70 = .ok (.iaload, 1) := by decide +kernel
theorem dX9_improve_71 : decode cX9_improve 71 = .ok (.aload_n 0, 1) := by decide +kernel
theorem dX9_improve_72 : decode cX9_improve 72 = .ok (.getfield 15, 3) := by decide +kernel
theorem dX9_improve_75 : decode cX9_improve 75 = .ok (.iload_n 2, 1) := by decide +kernel
theorem dX9_improve_76 : decode cX9_improve 76 = .ok (.iaload, 1) := by decide +kernel
theorem dX9_improve_77 : decode cX9_improve 77 = .ok (.iadd, 1) := by decide +kernel
theorem dX9_improve_78 : decode cX9_improve 78 = .ok (.iastore, 1) := by decide +kernel
theorem dX9_improve_79 : decode cX9_improve 79 = .ok (.iconst 1, 1) := by decide +kernel
theorem dX9_improve_80 : decode cX9_improve 80 = .ok (.istore_n 1, 1) := by decide +kernel
theorem dX9_improve_81 : decode cX9_improve 81 = .ok (.goto 48, 3) := by decide +kernel
theorem dX9_improve_84 : decode cX9_improve 84 = .ok (.aload_n 0, 1) := by decide +kernel
theorem dX9_improve_85 : decode cX9_improve 85 = .ok (.getfield 18, 3) := by decide +kernel
theorem dX9_improve_88 : decode cX9_improve 88 = .ok (.iload_n 3, 1) := by decide +kernel
theorem dX9_improve_89 : decode cX9_improve 89 = .ok (.iaload, 1) := by decide +kernel
theorem dX9_improve_90 : decode cX9_improve 90 = .ok (.aload_n 0, 1) := by decide +kernel
theorem dX9_improve_91 : decode cX9_improve 91 = .ok (.getfield 15, 3) := by decide +kernel
theorem dX9_improve_94 : decode cX9_improve 94 = .ok (.iload_n 2, 1) := by decide +kernel
theorem dX9_improve_95 : decode cX9_improve 95 = .ok (.iaload, 1) := by decide +kernel
theorem dX9_improve_96 : decode cX9_improve 96 = .ok (.iadd, 1) := by decide +kernel
theorem dX9_improve_97 : decode cX9_improve 97 = .ok (.aload_n 0, 1) := by decide +kernel
theorem dX9_improve_98 : decode cX9_improve 98 = .ok (.getfield 18, 3) := by decide +kernel
theorem dX9_improve_101 : decode cX9_improve 101 = .ok (.iload 4, 2) := by decide +kernel
theorem dX9_improve_103 : decode cX9_improve 103 = .ok (.iaload, 1) := by decide +kernel
theorem dX9_improve_104 : decode cX9_improve 104 = .ok (.if_icmp .ge 25, 3) := by decide +kernel
theorem dX9_improve_107 : decode cX9_improve 107 = .ok (.aload_n 0, 1) := by decide +kernel
theorem dX9_improve_108 : decode cX9_improve 108 = .ok (.getfield 18, 3) := by decide +kernel
theorem dX9_improve_111 : decode cX9_improve 111 = .ok (.iload 4, 2) := by decide +kernel
theorem dX9_improve_113 : decode cX9_improve 113 = .ok (.aload_n 0, 1) := by decide +kernel
theorem dX9_improve_114 : decode cX9_improve 114 = .ok (.getfield 18, 3) := by decide +kernel
theorem dX9_improve_117 : decode cX9_improve 117 = .ok (.iload_n 3, 1) := by decide +kernel
theorem dX9_improve_118 : decode cX9_improve 118 = .ok (.iaload, 1) := by decide +kernel
theorem dX9_improve_119 : decode cX9_improve 119 = .ok (.aload_n 0, 1) := by decide +kernel
theorem dX9_improve_120 : decode cX9_improve 120 = .ok (.getfield 15, 3) := by decide +kernel
theorem dX9_improve_123 : decode cX9_improve 123 = .ok (.iload_n 2, 1) := by decide +kernel
theorem dX9_improve_124 : decode cX9_improve 124 = .ok (.iaload, 1) := by decide +kernel
theorem dX9_improve_125 : decode cX9_improve 125 = .ok (.iadd, 1) := by decide +kernel
theorem dX9_improve_126 : decode cX9_improve 126 = .ok (.iastore, 1) := by decide +kernel
theorem dX9_improve_127 : decode cX9_improve 127 = .ok (.iconst 1, 1) := by decide +kernel
theorem dX9_improve_128 : decode cX9_improve 128 = .ok (.istore_n 1, 1) := by decide +kernel
theorem dX9_improve_129 : decode cX9_improve 129 = .ok (.iinc 2 1, 3) := by decide +kernel
theorem dX9_improve_132 : decode cX9_improve 132 = .ok (.goto (-128), 3) := by decide +kernel
theorem dX9_improve_135 : decode cX9_improve 135 = .ok (.iload_n 1, 1) := by decide +kernel
theorem dX9_improve_136 : decode cX9_improve 136 = .ok (.ireturn, 1) := by decide +kernel
theorem dX9_firstRoad_0 : decode cX9_firstRoad 0 = .ok (.iconst 0, 1) := by decide +kernel
theorem dX9_firstRoad_1 : decode cX9_firstRoad 1 = .ok (.istore_n 2, 1) := by decide +kernel
theorem dX9_firstRoad_2 : decode cX9_firstRoad 2 = .ok (.iload_n 2, 1) := by decide +kernel
theorem dX9_firstRoad_3 : decode cX9_firstRoad 3 = .ok (.aload_n 0, 1) := by decide +kernel
theorem dX9_firstRoad_4 : decode cX9_firstRoad 4 = .ok (.getfield 21, 3) := by decide +kernel
theorem dX9_firstRoad_7 : decode cX9_firstRoad 7 = .ok (.getfield 29, 3) := by decide +kernel
theorem dX9_firstRoad_10 : decode cX9_firstRoad 10 = .ok (.if_icmp .ge 48, 3) := by decide +kernel
theorem dX9_firstRoad_13 : decode cX9_firstRoad 13 = .ok (.aload_n 0, 1) := by decide +kernel
theorem dX9_firstRoad_14 : decode cX9_firstRoad 14 = .ok (.getfield 21, 3) := by decide +kernel
theorem dX9_firstRoad_17 : decode cX9_firstRoad 17 = .ok (.iload_n 2, 1) := by decide +kernel
theorem dX9_firstRoad_18 : decode cX9_firstRoad 18 = .ok (.iload_n 1, 1) := by decide +kernel
theorem dX9_firstRoad_19 : decode cX9_firstRoad 19 = .ok (.invokevirtual 66, 3) := by decide +kernel
theorem dX9_firstRoad_22 : decode cX9_firstRoad 22 = .ok (.istore_n 3, 1) := by decide +kernel
theorem dX9_firstRoad_23 : decode cX9_firstRoad 23 = .ok (.iload_n 3, 1) := by decide +kernel
theorem dX9_firstRoad_24 : decode cX9_firstRoad 24 = .ok (.iconst (-1), 1) := by decide +kernel
theorem dX9_firstRoad_25 : decode cX9_firstRoad 25 = .ok (.if_icmp .eq 27, 3) := by decide +kernel
theorem dX9_firstRoad_28 : decode cX9_firstRoad 28 = .ok (.aload_n 0, 1) := by decide +kernel
theorem dX9_firstRoad_29 : decode cX9_firstRoad 29 = .ok (.getfield 18, 3) := by decide +kernel
theorem dX9_firstRoad_32 : decode cX9_firstRoad 32 = .ok (.iload_n 3, 1) := by decide +kernel
theorem dX9_firstRoad_33 : decode cX9_firstRoad 33 = .ok (.iaload, 1) := by decide +kernel
theorem dX9_firstRoad_34 : decode cX9_firstRoad 34 = .ok (.aload_n 0, 1) := by decide +kernel
theorem dX9_firstRoad_35 : decode cX9_firstRoad 35 = .ok (.getfield 15, 3) := by decide +kernel
theorem dX9_firstRoad_38 : decode cX9_firstRoad 38 = .ok (.iload_n 2, 1) := by decide +kernel
theorem dX9_firstRoad_39 : decode cX9_firstRoad 39 = .ok (.iaload, 1) := by decide +kernel
theorem dX9_firstRoad_40 : decode cX9_firstRoad 40 = .ok (.iadd, 1) := by decide +kernel
theorem dX9_firstRoad_41 : decode cX9_firstRoad 41 = .ok (.aload_n 0, 1) := by decide +kernel
theorem dX9_firstRoad_42 : decode cX9_firstRoad 42 = .ok (.getfield 18, 3) := by decide +kernel
theorem dX9_firstRoad_45 : decode cX9_firstRoad 45 = .ok (.iload_n 1, 1) := by decide +kernel
theorem dX9_firstRoad_46 : decode cX9_firstRoad 46 = .ok (.iaload, 1) := by decide +kernel
theorem dX9_firstRoad_47 : decode cX9_firstRoad 47 = .ok (.if_icmp .ne 5, 3) := by decide +kernel
theorem dX9_firstRoad_50 : decode cX9_firstRoad 50 = .ok (.iload_n 2, 1) := by decide +kernel
theorem dX9_firstRoad_51 : decode cX9_firstRoad 51 = .ok (.ireturn, 1) := by decide +kernel
theorem dX9_firstRoad_52 : decode cX9_firstRoad 52 = .ok (.iinc 2 1, 3) := by decide +kernel
theorem dX9_firstRoad_55 : decode cX9_firstRoad 55 = .ok (.goto (-53), 3) := by decide +kernel
theorem dX9_firstRoad_58 : decode cX9_firstRoad 58 = .ok (.iconst (-1), 1) := by decide +kernel
theorem dX9_firstRoad_59 : decode cX9_firstRoad 59 = .ok (.ireturn, 1) := by decide +kernel
theorem dX10_init_0 : decode cX10_init 0 = .ok (.aload_n 0, 1) := by decide +kernel
theorem dX10_init_1 : decode cX10_init 1 = .ok (.invokespecial 3, 3) := by decide +kernel
theorem dX10_init_4 : decode cX10_init 4 = .ok (.aload_n 0, 1) := by decide +kernel
theorem dX10_init_5 : decode cX10_init 5 = .ok (.bipush 50, 2) := by decide +kernel
theorem dX10_init_7 : decode cX10_init 7 = .ok (.newarray .int, 2) := by decide +kernel
theorem dX10_init_9 : decode cX10_init 9 = .ok (.putfield 9, 3) := by decide +kernel
theorem dX10_init_12 : decode cX10_init 12 = .ok (.aload_n 0, 1) := by decide +kernel
theorem dX10_init_13 : decode cX10_init 13 = .ok (.bipush 10, 2) := by decide +kernel
theorem dX10_init_15 : decode cX10_init 15 = .ok (.newarray .int, 2) := by decide +kernel
theorem dX10_init_17 : decode cX10_init 17 = .ok (.putfield 15, 3) := by decide +kernel
theorem dX10_init_20 : decode cX10_init 20 = .ok (.aload_n 0, 1) := by decide +kernel
theorem dX10_init_21 : decode cX10_init 21 = .ok (.aload_n 1, 1) := by decide +kernel
theorem dX10_init_22 : decode cX10_init 22 = .ok (.putfield 18, 3) := by decide +kernel
theorem dX10_init_25 : decode cX10_init 25 = .ok (.aload_n 0, 1) := by decide +kernel
theorem dX10_init_26 : decode cX10_init 26 = .ok (.aload_n 2, 1) := by decide +kernel
theorem dX10_init_27 : decode cX10_init 27 = .ok (.putfield 22, 3) := by decide +kernel
theorem dX10_init_30 : decode cX10_init 30 = .ok (.aload_n 0, 1) := by decide +kernel
theorem dX10_init_31 : decode cX10_init 31 = .ok (.aload_n 3, 1) := by decide +kernel
theorem dX10_init_32 : decode cX10_init 32 = .ok (.putfield 26, 3) := by decide +kernel
theorem dX10_init_35 : decode cX10_init 35 = .ok (.return_, 1) := by decide +kernel
theorem dX10_pass_0 : decode cX10_pass 0 = .ok (.aload_n 0, 1) := by decide +kernel
theorem dX10_pass_1 : decode cX10_pass 1 = .ok (.getfield 22, 3) := by decide +kernel
theorem dX10_pass_4 : decode cX10_pass 4 = .ok (.aload_n 1, 1) := by decide +kernel
theorem dX10_pass_5 : decode cX10_pass 5 = .ok (.invokevirtual 30, 3) := by decide +kernel
theorem dX10_pass_8 : decode cX10_pass 8 = .ok (.aload_n 0, 1) := by decide +kernel
theorem dX10_pass_9 : decode cX10_pass 9 = .ok (.getfield 9, 3) := by decide +kernel
theorem dX10_pass_12 : decode cX10_pass 12 = .ok (.iconst 0, 1) := by decide +kernel
theorem dX10_pass_13 : decode cX10_pass 13 = .ok (.invokestatic 36, 3) := by decide +kernel
theorem dX10_pass_16 : decode cX10_pass 16 = .ok (.aload_n 0, 1) := by decide +kernel
theorem dX10_pass_17 : decode cX10_pass 17 = .ok (.getfield 15, 3) := by decide +kernel
theorem dX10_pass_20 : decode cX10_pass 20 = .ok (.iconst 0, 1) := by decide +kernel
theorem dX10_pass_21 : decode cX10_pass 21 = .ok (.invokestatic 36, 3) := by decide +kernel
theorem dX10_pass_24 : decode cX10_pass 24 = .ok (.aload_n 0, 1) := by decide +kernel
theorem dX10_pass_25 : decode cX10_pass 25 = .ok (.iconst 0, 1) := by decide +kernel
theorem dX10_pass_26 : decode cX10_pass 26 = .ok (.putfield 42, 3) := by decide +kernel
theorem dX10_pass_29 : decode cX10_pass 29 = .ok (.iconst 0, 1) := by decide +kernel
theorem dX10_pass_30 : decode cX10_pass 30 = .ok (.istore 4, 2) := by decide +kernel
theorem dX10_pass_32 : decode cX10_pass 32 = .ok (.iload 4, 2) := by decide +kernel
theorem dX10_pass_34 : decode cX10_pass 34 = .ok (.aload_n 2, 1) := by decide +kernel
theorem dX10_pass_35 : decode cX10_pass 35 = .ok (.getfield 46, 3) := by decide +kernel
theorem dX10_pass_38 : decode cX10_pass 38 = .ok (.if_icmp .ge 81, 3) := by decide +kernel
theorem dX10_pass_41 : decode cX10_pass 41 = .ok (.iload 4, 2) := by decide +kernel
theorem dX10_pass_43 : decode cX10_pass 43 = .ok (.ifCond .eq 13, 3) := by decide +kernel
theorem dX10_pass_46 : decode cX10_pass 46 = .ok (.aload_n 0, 1) := by decide +kernel
theorem dX10_pass_47 : decode cX10_pass 47 = .ok (.getfield 18, 3) := by decide +kernel
theorem dX10_pass_50 : decode cX10_pass 50 = .ok (.getfield 51, 3) := by decide +kernel
theorem dX10_pass_53 : decode cX10_pass 53 = .ok (.ifCond .eq 17, 3) := by decide +kernel
theorem dX10_pass_56 : decode cX10_pass 56 = .ok (.aload_n 0, 1) := by decide +kernel
theorem dX10_pass_57 : decode cX10_pass 57 = .ok (.getfield 26, 3) := by decide +kernel
theorem dX10_pass_60 : decode cX10_pass 60 = .ok (.aload_n 2, 1) := by decide +kernel
theorem dX10_pass_61 : decode cX10_pass 61 = .ok (.getfield 57, 3) := by decide +kernel
theorem dX10_pass_64 : decode cX10_pass 64 = .ok (.iload 4, 2) := by decide +kernel
theorem dX10_pass_66 : decode cX10_pass 66 = .ok (.iaload, 1) := by decide +kernel
theorem dX10_pass_67 : decode cX10_pass 67 = .ok (.invokevirtual 60, 3) := by decide +kernel
theorem dX10_pass_70 : decode cX10_pass 70 = .ok (.aload_n 0, 1) := by decide +kernel
theorem dX10_pass_71 : decode cX10_pass 71 = .ok (.getfield 26, 3) := by decide +kernel
theorem dX10_pass_74 : decode cX10_pass 74 = .ok (.aload_n 2, 1) := by decide +kernel
theorem dX10_pass_75 : decode cX10_pass 75 = .ok (.getfield 66, 3) := by decide +kernel
theorem dX10_pass_78 : decode cX10_pass 78 = .ok (.iload 4, 2) := by decide +kernel
theorem dX10_pass_80 : decode cX10_pass 80 = .ok (.iaload, 1) := by decide +kernel
theorem dX10_pass_81 : decode cX10_pass 81 = .ok (.aload_n 2, 1) := by decide +kernel
theorem dX10_pass_82 : decode cX10_pass 82 = .ok (.getfield 69, 3) := by decide +kernel
theorem dX10_pass_85 : decode cX10_pass 85 = .ok (.iload 4, 2) := by decide +kernel
theorem dX10_pass_87 : decode cX10_pass 87 = .ok (.iaload, 1) := by decide +kernel
theorem dX10_pass_88 : decode cX10_pass 88 = .ok (.invokevirtual 72, 3) := by decide +kernel
theorem dX10_pass_91 : decode cX10_pass 91 = .ok (.ifCond .eq 14, 3) := by decide +kernel
theorem dX10_pass_94 : decode cX10_pass 94 = .ok (.aload_n 0, 1) := by decide +kernel
theorem dX10_pass_95 : decode cX10_pass 95 = .ok (.aload_n 1, 1) := by decide +kernel
theorem dX10_pass_96 : decode cX10_pass 96 = .ok (.aload_n 2, 1) := by decide +kernel
theorem dX10_pass_97 : decode cX10_pass 97 = .ok (.iload 4, 2) := by decide +kernel
theorem dX10_pass_99 : decode cX10_pass 99 = .ok (.invokevirtual 76, 3) := by decide +kernel
theorem dX10_pass_102 : decode cX10_pass 102 = .ok (.goto 11, 3) := by decide +kernel
theorem dX10_pass_105 : decode cX10_pass 105 = .ok (.aload_n 1, 1) := by decide +kernel
theorem dX10_pass_106 : decode cX10_pass 106 = .ok (.getfield 80, 3) := by decide +kernel
theorem dX10_pass_109 : decode cX10_pass 109 = .ok (.iload 4, 2) := by decide +kernel
theorem dX10_pass_111 : decode cX10_pass 111 = .ok (.iconst (-1), 1) := by decide +kernel
theorem dX10_pass_112 : decode cX10_pass 112 = .ok (.iastore, 1) := by decide +kernel
theorem dX10_pass_113 : decode cX10_pass 113 = .ok (.iinc 4 1, 3) := by decide +kernel
theorem dX10_pass_116 : decode cX10_pass 116 = .ok (.goto (-84), 3) := by decide +kernel
theorem dX10_pass_119 : decode cX10_pass 119 = .ok (.iconst 0, 1) := by decide +kernel
theorem dX10_pass_120 : decode cX10_pass 120 = .ok (.istore 4, 2) := by decide +kernel
theorem dX10_pass_122 : decode cX10_pass 122 = .ok (.iload 4, 2) := by decide +kernel
theorem dX10_pass_124 : decode cX10_pass 124 = .ok (.aload_n 0, 1) := by decide +kernel
theorem dX10_pass_125 : decode cX10_pass 125 = .ok (.getfield 18, 3) := by decide +kernel
theorem dX10_pass_128 : decode cX10_pass 128 = .ok (.getfield 85, 3) := by decide +kernel
theorem dX10_pass_131 : decode cX10_pass 131 = .ok (.if_icmp .ge 35, 3) := by decide +kernel
theorem dX10_pass_134 : decode cX10_pass 134 = .ok (.aload_n 0, 1) := by decide +kernel
theorem dX10_pass_135 : decode cX10_pass 135 = .ok (.aload_n 1, 1) := by decide +kernel
theorem dX10_pass_136 : decode cX10_pass 136 = .ok (.iload 4, 2) := by decide +kernel
theorem dX10_pass_138 : decode cX10_pass 138 = .ok (.invokevirtual 88, 3) := by decide +kernel
theorem dX10_pass_141 : decode cX10_pass 141 = .ok (.iload 4, 2) := by decide +kernel
theorem dX10_pass_143 : decode cX10_pass 143 = .ok (.iload_n 3, 1) := by decide +kernel
theorem dX10_pass_144 : decode cX10_pass 144 = .ok (.if_icmp .ne 9, 3) := by decide +kernel
theorem dX10_pass_147 : decode cX10_pass 147 = .ok (.aload_n 0, 1) := by decide +kernel
theorem dX10_pass_148 : decode cX10_pass 148 = .ok (.iload 4, 2) := by decide +kernel
theorem dX10_pass_150 : decode cX10_pass 150 = .ok (.invokevirtual 92, 3) := by decide +kernel
theorem dX10_pass_153 : decode cX10_pass 153 = .ok (.aload_n 0, 1) := by decide +kernel
theorem dX10_pass_154 : decode cX10_pass 154 = .ok (.aload_n 1, 1) := by decide +kernel
theorem dX10_pass_155 : decode cX10_pass 155 = .ok (.iload 4, 2) := by decide +kernel
theorem dX10_pass_157 : decode cX10_pass 157 = .ok (.invokevirtual 95, 3) := by decide +kernel
theorem dX10_pass_160 : decode cX10_pass 160 = .ok (.iinc 4 1, 3) := by decide +kernel
theorem dX10_pass_163 : decode cX10_pass 163 = .ok (.goto (-41), 3) := by decide +kernel
theorem dX10_pass_166 : decode cX10_pass 166 = .ok (.aload_n 1, 1) := by decide +kernel
theorem dX10_pass_167 : decode cX10_pass 167 = .ok (.dup, 1) := by decide +kernel
theorem dX10_pass_168 : decode cX10_pass 168 = .ok (.getfield 98, 3) := by decide +kernel
theorem dX10_pass_171 : decode cX10_pass 171 = .ok (.iconst 1, 1) := by decide +kernel
theorem dX10_pass_172 : decode cX10_pass 172 = .ok (.iadd, 1) := by decide +kernel
theorem dX10_pass_173 : decode cX10_pass 173 = .ok (.putfield 98, 3) := by decide +kernel
theorem dX10_pass_176 : decode cX10_pass 176 = .ok (.return_, 1) := by decide +kernel
theorem dX10_carry_0 : decode cX10_carry 0 = .ok (.aload_n 2, 1) := by decide +kernel
theorem dX10_carry_1 : decode cX10_carry 1 = .ok (.getfield 101, 3) := by decide +kernel
theorem dX10_carry_4 : decode cX10_carry 4 = .ok (.iload_n 3, 1) := by decide +kernel
theorem dX10_carry_5 : decode cX10_carry 5 = .ok (.iaload, 1) := by decide +kernel
theorem dX10_carry_6 : decode cX10_carry 6 = .ok (.istore 4, 2) := by decide +kernel
theorem dX10_carry_8 : decode cX10_carry 8 = .ok (.aload_n 2, 1) := by decide +kernel
theorem dX10_carry_9 : decode cX10_carry 9 = .ok (.getfield 57, 3) := by decide +kernel
theorem dX10_carry_12 : decode cX10_carry 12 = .ok (.iload_n 3, 1) := by decide +kernel
theorem dX10_carry_13 : decode cX10_carry 13 = .ok (.iaload, 1) := by decide +kernel
theorem dX10_carry_14 : decode cX10_carry 14 = .ok (.istore 5, 2) := by decide +kernel
theorem dX10_carry_16 : decode cX10_carry 16 = .ok (.iconst 0, 1) := by decide +kernel
theorem dX10_carry_17 : decode cX10_carry 17 = .ok (.istore 6, 2) := by decide +kernel
theorem dX10_carry_19 : decode cX10_carry 19 = .ok (.iload 6, 2) := by decide +kernel
theorem dX10_carry_21 : decode cX10_carry 21 = .ok (.aload_n 0, 1) := by decide +kernel
theorem dX10_carry_22 : decode cX10_carry 22 = .ok (.getfield 26, 3) := by decide +kernel
theorem dX10_carry_25 : decode cX10_carry 25 = .ok (.getfield 104, 3) := by decide +kernel
theorem dX10_carry_28 : decode cX10_carry 28 = .ok (.if_icmp .ge 88, 3) := by decide +kernel
theorem dX10_carry_31 : decode cX10_carry 31 = .ok (.aload_n 0, 1) := by decide +kernel
theorem dX10_carry_32 : decode cX10_carry 32 = .ok (.getfield 26, 3) := by decide +kernel
theorem dX10_carry_35 : decode cX10_carry 35 = .ok (.getfield 105, 3) := by decide +kernel
theorem dX10_carry_38 : decode cX10_carry 38 = .ok (.iload 6, 2) := by decide +kernel
theorem dX10_carry_40 : decode cX10_carry 40 = .ok (.iaload, 1) := by decide +kernel
theorem dX10_carry_41 : decode cX10_carry 41 = .ok (.istore 7, 2) := by decide +kernel
theorem dX10_carry_43 : decode cX10_carry 43 = .ok (.iload 5, 2) := by decide +kernel
theorem dX10_carry_45 : decode cX10_carry 45 = .ok (.aload_n 0, 1) := by decide +kernel
theorem dX10_carry_46 : decode cX10_carry 46 = .ok (.getfield 22, 3) := by decide +kernel
theorem dX10_carry_49 : decode cX10_carry 49 = .ok (.iload 7, 2) := by decide +kernel
theorem dX10_carry_51 : decode cX10_carry 51 = .ok (.iload 4, 2) := by decide +kernel
theorem dX10_carry_53 : decode cX10_carry 53 = .ok (.invokevirtual 108, 3) := by decide +kernel
theorem dX10_carry_56 : decode cX10_carry 56 = .ok (.imul, 1) := by decide +kernel
theorem dX10_carry_57 : decode cX10_carry 57 = .ok (.bipush 100, 2) := by decide +kernel
theorem dX10_carry_59 : decode cX10_carry 59 = .ok (.idiv, 1) := by decide +kernel
theorem dX10_carry_60 : decode cX10_carry 60 = .ok (.istore 8, 2) := by decide +kernel
theorem dX10_carry_62 : decode cX10_carry 62 = .ok (.aload_n 0, 1) := by decide +kernel
theorem dX10_carry_63 : decode cX10_carry 63 = .ok (.getfield 15, 3) := by decide +kernel
theorem dX10_carry_66 : decode cX10_carry 66 = .ok (.iload 7, 2) := by decide +kernel
theorem dX10_carry_68 : decode cX10_carry 68 = .ok (.dup2, 1) := by decide +kernel
theorem dX10_carry_69 : decode cX10_carry 69 = .ok (.iaload, 1) := by decide +kernel
theorem dX10_carry_70 : decode cX10_carry 70 = .ok (.iload 5, 2) := by decide +kernel
theorem dX10_carry_72 : decode cX10_carry 72 = .ok (.iadd, 1) := by decide +kernel
theorem dX10_carry_73 : decode cX10_carry 73 = .ok (.iastore, 1) := by decide +kernel
theorem dX10_carry_74 : decode cX10_carry 74 = .ok (.aload_n 0, 1) := by decide +kernel
theorem dX10_carry_75 : decode cX10_carry 75 = .ok (.getfield 9, 3) := by decide +kernel
theorem dX10_carry_78 : decode cX10_carry 78 = .ok (.iload 7, 2) := by decide +kernel
theorem dX10_carry_80 : decode cX10_carry 80 = .ok (.iload 4, 2) := by decide +kernel
theorem dX10_carry_82 : decode cX10_carry 82 = .ok (.invokestatic 112, 3) := by decide +kernel
theorem dX10_carry_85 : decode cX10_carry 85 = .ok (.dup2, 1) := by decide +kernel
theorem dX10_carry_86 : decode cX10_carry 86 = .ok (.iaload, 1) := by decide +kernel
theorem dX10_carry_87 : decode cX10_carry 87 = .ok (.iload 8, 2) := by decide +kernel
theorem dX10_carry_89 : decode cX10_carry 89 = .ok (.iadd, 1) := by decide +kernel
theorem dX10_carry_90 : decode cX10_carry 90 = .ok (.iastore, 1) := by decide +kernel
theorem dX10_carry_91 : decode cX10_carry 91 = .ok (.aload_n 1, 1) := by decide +kernel
theorem dX10_carry_92 : decode cX10_carry 92 = .ok (.getfield 115, 3) := by decide +kernel
theorem dX10_carry_95 : decode cX10_carry 95 = .ok (.iload 4, 2) := by decide +kernel
theorem dX10_carry_97 : decode cX10_carry 97 = .ok (.dup2, 1) := by decide +kernel
theorem dX10_carry_98 : decode cX10_carry 98 = .ok (.iaload, 1) := by decide +kernel
theorem dX10_carry_99 : decode cX10_carry 99 = .ok (.iload 8, 2) := by decide +kernel
theorem dX10_carry_101 : decode cX10_carry 101 = .ok (.iadd, 1) := by decide +kernel
theorem dX10_carry_102 : decode cX10_carry 102 = .ok (.iastore, 1) := by decide +kernel
theorem dX10_carry_103 : decode cX10_carry 103 = .ok (.iload 5, 2) := by decide +kernel
theorem dX10_carry_105 : decode cX10_carry 105 = .ok (.iload 8, 2) := by decide +kernel
theorem dX10_carry_107 : decode cX10_carry 107 = .ok (.isub, 1) := by decide +kernel
theorem dX10_carry_108 : decode cX10_carry 108 = .ok (.istore 5, 2) := by decide +kernel
theorem dX10_carry_110 : decode cX10_carry 110 = .ok (.iinc 6 1, 3) := by decide +kernel
theorem dX10_carry_113 : decode cX10_carry 113 = .ok (.goto (-94), 3) := by decide +kernel
theorem dX10_carry_116 : decode cX10_carry 116 = .ok (.aload_n 1, 1) := by decide +kernel
theorem dX10_carry_117 : decode cX10_carry 117 = .ok (.getfield 80, 3) := by decide +kernel
theorem dX10_carry_120 : decode cX10_carry 120 = .ok (.iload_n 3, 1) := by decide +kernel
theorem dX10_carry_121 : decode cX10_carry 121 = .ok (.iload 5, 2) := by decide +kernel
theorem dX10_carry_123 : decode cX10_carry 123 = .ok (.iastore, 1) := by decide +kernel
theorem dX10_carry_124 : decode cX10_carry 124 = .ok (.aload_n 1, 1) := by decide +kernel
theorem dX10_carry_125 : decode cX10_carry 125 = .ok (.getfield 118, 3) := by decide +kernel
theorem dX10_carry_128 : decode cX10_carry 128 = .ok (.iload_n 3, 1) := by decide +kernel
theorem dX10_carry_129 : decode cX10_carry 129 = .ok (.dup2, 1) := by decide +kernel
theorem dX10_carry_130 : decode cX10_carry 130 = .ok (.iaload, 1) := by decide +kernel
theorem dX10_carry_131 : decode cX10_carry 131 = .ok (.iload 5, 2) := by decide +kernel
theorem dX10_carry_133 : decode cX10_carry 133 = .ok (.iadd, 1) := by decide +kernel
theorem dX10_carry_134 : decode cX10_carry 134 = .ok (.iastore, 1) := by decide +kernel
theorem dX10_carry_135 : decode cX10_carry 135 = .ok (.aload_n 0, 1) := by decide +kernel
theorem dX10_carry_136 : decode cX10_carry 136 = .ok (.dup, 1) := by decide +kernel
theorem dX10_carry_137 : decode cX10_carry 137 = .ok (.getfield 42, 3) := by decide +kernel
theorem dX10_carry_140 : decode cX10_carry 140 = .ok (.iload 5, 2) := by decide +kernel
theorem dX10_carry_142 : decode cX10_carry 142 = .ok (.iadd, 1) := by decide +kernel
theorem dX10_carry_143 : decode cX10_carry 143 = .ok (.putfield 42, 3) := by decide +kernel
theorem dX10_carry_146 : decode cX10_carry 146 = .ok (.return_, 1) := by decide +kernel
theorem dX10_dropOnPurpose_0 : decode cX10_dropOnPurpose 0 = .ok (.iconst 0, 1) := by decide +kernel
theorem dX10_dropOnPurpose_1 : decode cX10_dropOnPurpose 1 = .ok (.istore_n 3, 1) := by decide +kernel
theorem dX10_dropOnPurpose_2 : decode cX10_dropOnPurpose 2 = .ok (.iload_n 3, 1) := by decide +kernel
theorem dX10_dropOnPurpose_3 : decode cX10_dropOnPurpose 3 = .ok (.aload_n 0, 1) := by decide +kernel
theorem dX10_dropOnPurpose_4 : decode cX10_dropOnPurpose 4 = .ok (.getfield 18, 3) := by decide +kernel
theorem dX10_dropOnPurpose_7 : decode cX10_dropOnPurpose 7 = .ok (.getfield 121, 3) := by decide +kernel
theorem dX10_dropOnPurpose_10 : decode cX10_dropOnPurpose 10 = .ok (.if_icmp .ge 47, 3) := by decide +kernel
theorem dX10_dropOnPurpose_13 : decode cX10_dropOnPurpose 13 = .ok (.aload_n 1, 1) := by decide +kernel
theorem dX10_dropOnPurpose_14 : decode cX10_dropOnPurpose 14 = .ok (.getfield 124, 3) := by decide +kernel
theorem dX10_dropOnPurpose_17 : decode cX10_dropOnPurpose 17 = .ok (.iload_n 2, 1) := by decide +kernel
theorem dX10_dropOnPurpose_18 : decode cX10_dropOnPurpose 18 = .ok (.iload_n 3, 1) := by decide +kernel
theorem dX10_dropOnPurpose_19 : decode cX10_dropOnPurpose 19 = .ok (.invokestatic 112, 3) := by decide +kernel
theorem dX10_dropOnPurpose_22 : decode cX10_dropOnPurpose 22 = .ok (.iaload, 1) := by decide +kernel
theorem dX10_dropOnPurpose_23 : decode cX10_dropOnPurpose 23 = .ok (.istore 4, 2) := by decide +kernel
theorem dX10_dropOnPurpose_25 : decode cX10_dropOnPurpose 25 = .ok (.aload_n 0, 1) := by decide +kernel
theorem dX10_dropOnPurpose_26 : decode cX10_dropOnPurpose 26 = .ok (.getfield 9, 3) := by decide +kernel
theorem dX10_dropOnPurpose_29 : decode cX10_dropOnPurpose 29 = .ok (.iload_n 2, 1) := by decide +kernel
theorem dX10_dropOnPurpose_30 : decode cX10_dropOnPurpose 30 = .ok (.iload_n 3, 1) := by decide +kernel
theorem dX10_dropOnPurpose_31 : decode cX10_dropOnPurpose 31 = .ok (.invokestatic 112, 3) := by decide +kernel
theorem dX10_dropOnPurpose_34 : decode cX10_dropOnPurpose 34 = .ok (.dup2, 1) := by decide +kernel
theorem dX10_dropOnPurpose_35 : decode cX10_dropOnPurpose 35 = .ok (.iaload, 1) := by decide +kernel
theorem dX10_dropOnPurpose_36 : decode cX10_dropOnPurpose 36 = .ok (.iload 4, 2) := by decide +kernel
theorem dX10_dropOnPurpose_38 : decode cX10_dropOnPurpose 38 = .ok (.iadd, 1) := by decide +kernel
theorem dX10_dropOnPurpose_39 : decode cX10_dropOnPurpose 39 = .ok (.iastore, 1) := by decide +kernel
theorem dX10_dropOnPurpose_40 : decode cX10_dropOnPurpose 40 = .ok (.aload_n 1, 1) := by decide +kernel
theorem dX10_dropOnPurpose_41 : decode cX10_dropOnPurpose 41 = .ok (.getfield 115, 3) := by decide +kernel
theorem dX10_dropOnPurpose_44 : decode cX10_dropOnPurpose 44 = .ok (.iload_n 3, 1) := by decide +kernel
theorem dX10_dropOnPurpose_45 : decode cX10_dropOnPurpose 45 = .ok (.dup2, 1) := by decide +kernel
theorem dX10_dropOnPurpose_46 : decode cX10_dropOnPurpose 46 = .ok (.iaload, 1) := by decide +kernel
theorem dX10_dropOnPurpose_47 : decode cX10_dropOnPurpose 47 = .ok (.iload 4, 2) := by decide +kernel
theorem dX10_dropOnPurpose_49 : decode cX10_dropOnPurpose 49 = .ok (.iadd, 1) := by decide +kernel
theorem dX10_dropOnPurpose_50 : decode cX10_dropOnPurpose 50 = .ok (.iastore, 1) := by decide +kernel
theorem dX10_dropOnPurpose_51 : decode cX10_dropOnPurpose 51 = .ok (.iinc 3 1, 3) := by decide +kernel
theorem dX10_dropOnPurpose_54 : decode cX10_dropOnPurpose 54 = .ok (.goto (-52), 3) := by decide +kernel
theorem dX10_dropOnPurpose_57 : decode cX10_dropOnPurpose 57 = .ok (.return_, 1) := by decide +kernel
theorem dX10_sweep_0 : decode cX10_sweep 0 = .ok (.iconst 0, 1) := by decide +kernel
theorem dX10_sweep_1 : decode cX10_sweep 1 = .ok (.istore_n 2, 1) := by decide +kernel
theorem dX10_sweep_2 : decode cX10_sweep 2 = .ok (.iload_n 2, 1) := by decide +kernel
theorem dX10_sweep_3 : decode cX10_sweep 3 = .ok (.iconst 5, 1) := by decide +kernel
theorem dX10_sweep_4 : decode cX10_sweep 4 = .ok (.if_icmp .ge 20, 3) := by decide +kernel
theorem dX10_sweep_7 : decode cX10_sweep 7 = .ok (.aload_n 0, 1) := by decide +kernel
theorem dX10_sweep_8 : decode cX10_sweep 8 = .ok (.getfield 9, 3) := by decide +kernel
theorem dX10_sweep_11 : decode cX10_sweep 11 = .ok (.iload_n 1, 1) := by decide +kernel
theorem dX10_sweep_12 : decode cX10_sweep 12 = .ok (.iload_n 2, 1) := by decide +kernel
theorem dX10_sweep_13 : decode cX10_sweep 13 = .ok (.invokestatic 112, 3) := by decide +kernel
theorem dX10_sweep_16 : decode cX10_sweep 16 = .ok (.iconst 0, 1) := by decide +kernel
theorem dX10_sweep_17 : decode cX10_sweep 17 = .ok (.iastore, 1) := by decide +kernel
theorem dX10_sweep_18 : decode cX10_sweep 18 = .ok (.iinc 2 1, 3) := by decide +kernel
theorem dX10_sweep_21 : decode cX10_sweep 21 = .ok (.goto (-19), 3) := by decide +kernel
theorem dX10_sweep_24 : decode cX10_sweep 24 = .ok (.return_, 1) := by decide +kernel
theorem dX10_mendRoad_0 : decode cX10_mendRoad 0 = .ok (.aload_n 1, 1) := by decide +kernel
theorem dX10_mendRoad_1 : decode cX10_mendRoad 1 = .ok (.getfield 127, 3) := by decide +kernel
theorem dX10_mendRoad_4 : decode cX10_mendRoad 4 = .ok (.iload_n 2, 1) := by decide +kernel
theorem dX10_mendRoad_5 : decode cX10_mendRoad 5 = .ok (.iaload, 1) := by decide +kernel
theorem dX10_mendRoad_6 : decode cX10_mendRoad 6 = .ok (.aload_n 0, 1) := by decide +kernel
theorem dX10_mendRoad_7 : decode cX10_mendRoad 7 = .ok (.getfield 15, 3) := by decide +kernel
theorem dX10_mendRoad_10 : decode cX10_mendRoad 10 = .ok (.iload_n 2, 1) := by decide +kernel
theorem dX10_mendRoad_11 : decode cX10_mendRoad 11 = .ok (.iaload, 1) := by decide +kernel
theorem dX10_mendRoad_12 : decode cX10_mendRoad 12 = .ok (.bipush 10, 2) := by decide +kernel
theorem dX10_mendRoad_14 : decode cX10_mendRoad 14 = .ok (.idiv, 1) := by decide +kernel
theorem dX10_mendRoad_15 : decode cX10_mendRoad 15 = .ok (.iadd, 1) := by decide +kernel
theorem dX10_mendRoad_16 : decode cX10_mendRoad 16 = .ok (.ldc 130, 2) := by decide +kernel
theorem dX10_mendRoad_18 : decode cX10_mendRoad 18 = .ok (.invokestatic 131, 3) := by decide +kernel
theorem dX10_mendRoad_21 : decode cX10_mendRoad 21 = .ok (.istore_n 3, 1) := by decide +kernel
theorem dX10_mendRoad_22 : decode cX10_mendRoad 22 = .ok (.iconst 0, 1) := by decide +kernel
theorem dX10_mendRoad_23 : decode cX10_mendRoad 23 = .ok (.istore 4, 2) := by decide +kernel
theorem dX10_mendRoad_25 : decode cX10_mendRoad 25 = .ok (.iload 4, 2) := by decide +kernel
theorem dX10_mendRoad_27 : decode cX10_mendRoad 27 = .ok (.aload_n 0, 1) := by decide +kernel
theorem dX10_mendRoad_28 : decode cX10_mendRoad 28 = .ok (.getfield 18, 3) := by decide +kernel
theorem dX10_mendRoad_31 : decode cX10_mendRoad 31 = .ok (.getfield 121, 3) := by decide +kernel
theorem dX10_mendRoad_34 : decode cX10_mendRoad 34 = .ok (.if_icmp .ge 74, 3) := by decide +kernel
theorem dX10_mendRoad_37 : decode cX10_mendRoad 37 = .ok (.aload_n 0, 1) := by decide +kernel
theorem dX10_mendRoad_38 : decode cX10_mendRoad 38 = .ok (.getfield 9, 3) := by decide +kernel
theorem dX10_mendRoad_41 : decode cX10_mendRoad 41 = .ok (.iload_n 2, 1) := by decide +kernel
theorem dX10_mendRoad_42 : decode cX10_mendRoad 42 = .ok (.iload 4, 2) := by decide +kernel
theorem dX10_mendRoad_44 : decode cX10_mendRoad 44 = .ok (.invokestatic 112, 3) := by decide +kernel
theorem dX10_mendRoad_47 : decode cX10_mendRoad 47 = .ok (.iaload, 1) := by decide +kernel
theorem dX10_mendRoad_48 : decode cX10_mendRoad 48 = .ok (.istore 5, 2) := by decide +kernel
theorem dX10_mendRoad_50 : decode cX10_mendRoad 50 = .ok (.iload 5, 2) := by decide +kernel
theorem dX10_mendRoad_52 : decode cX10_mendRoad 52 = .ok (.ifCond .le 41, 3) := by decide +kernel
theorem dX10_mendRoad_55 : decode cX10_mendRoad 55 = .ok (.iconst 0, 1) := by decide +kernel
theorem dX10_mendRoad_56 : decode cX10_mendRoad 56 = .ok (.iload_n 3, 1) := by decide +kernel
theorem dX10_mendRoad_57 : decode cX10_mendRoad 57 = .ok (.aload_n 0, 1) := by decide +kernel
theorem dX10_mendRoad_58 : decode cX10_mendRoad 58 = .ok (.getfield 22, 3) := by decide +kernel
theorem dX10_mendRoad_61 : decode cX10_mendRoad 61 = .ok (.iload_n 2, 1) := by decide +kernel
theorem dX10_mendRoad_62 : decode cX10_mendRoad 62 = .ok (.iload 4, 2) := by decide +kernel
theorem dX10_mendRoad_64 : decode cX10_mendRoad 64 = .ok (.iload 5, 2) := by decide +kernel
theorem dX10_mendRoad_66 : decode cX10_mendRoad 66 = .ok (.invokevirtual 136, 3) := by decide +kernel
theorem dX10_mendRoad_69 : decode cX10_mendRoad 69 = .ok (.iload 5, 2) := by decide +kernel
theorem dX10_mendRoad_71 : decode cX10_mendRoad 71 = .ok (.imul, 1) := by decide +kernel
theorem dX10_mendRoad_72 : decode cX10_mendRoad 72 = .ok (.isub, 1) := by decide +kernel
theorem dX10_mendRoad_73 : decode cX10_mendRoad 73 = .ok (.invokestatic 140, 3) := by decide +kernel
theorem dX10_mendRoad_76 : decode cX10_mendRoad 76 = .ok (.istore_n 3, 1) := by decide +kernel
theorem dX10_mendRoad_77 : decode cX10_mendRoad 77 = .ok (.aload_n 1, 1) := by decide +kernel
theorem dX10_mendRoad_78 : decode cX10_mendRoad 78 = .ok (.getfield 143, 3) := by decide +kernel
theorem dX10_mendRoad_81 : decode cX10_mendRoad 81 = .ok (.iload_n 2, 1) := by decide +kernel
theorem dX10_mendRoad_82 : decode cX10_mendRoad 82 = .ok (.iload 4, 2) := by decide +kernel
theorem dX10_mendRoad_84 : decode cX10_mendRoad 84 = .ok (.invokestatic 112, 3) := by decide +kernel
theorem dX10_mendRoad_87 : decode cX10_mendRoad 87 = .ok (.dup2, 1) := by decide +kernel
theorem dX10_mendRoad_88 : decode cX10_mendRoad 88 = .ok (.iaload, 1) := by decide +kernel
theorem dX10_mendRoad_89 : decode cX10_mendRoad 89 = .ok (.iload 5, 2) := by decide +kernel
theorem dX10_mendRoad_91 : decode cX10_mendRoad 91 = .ok (.iadd, 1) := by decide +kernel
theorem dX10_mendRoad_92 : decode cX10_mendRoad 92 = .ok (.iastore, 1) := by decide +kernel
theorem dX10_mendRoad_93 : decode cX10_mendRoad 93 = .ok (.aload_n 1, 1) := by decide +kernel
theorem dX10_mendRoad_94 : decode cX10_mendRoad 94 = .ok (.iload_n 2, 1) := by decide +kernel
theorem dX10_mendRoad_95 : decode cX10_mendRoad 95 = .ok (.iload 4, 2) := by decide +kernel
theorem dX10_mendRoad_97 : decode cX10_mendRoad 97 = .ok (.iload 5, 2) := by decide +kernel
theorem dX10_mendRoad_99 : decode cX10_mendRoad 99 = .ok (.invokevirtual 146, 3) := by decide +kernel
theorem dX10_mendRoad_102 : decode cX10_mendRoad 102 = .ok (.iinc 4 1, 3) := by decide +kernel
theorem dX10_mendRoad_105 : decode cX10_mendRoad 105 = .ok (.goto (-80), 3) := by decide +kernel
theorem dX10_mendRoad_108 : decode cX10_mendRoad 108 = .ok (.aload_n 1, 1) := by decide +kernel
theorem dX10_mendRoad_109 : decode cX10_mendRoad 109 = .ok (.getfield 127, 3) := by decide +kernel
theorem dX10_mendRoad_112 : decode cX10_mendRoad 112 = .ok (.iload_n 2, 1) := by decide +kernel
theorem dX10_mendRoad_113 : decode cX10_mendRoad 113 = .ok (.iload_n 3, 1) := by decide +kernel
theorem dX10_mendRoad_114 : decode cX10_mendRoad 114 = .ok (.iastore, 1) := by decide +kernel
theorem dX10_mendRoad_115 : decode cX10_mendRoad 115 = .ok (.return_, 1) := by decide +kernel
theorem dX11_init_0 : decode cX11_init 0 = .ok (.aload_n 0, 1) := by decide +kernel
theorem dX11_init_1 : decode cX11_init 1 = .ok (.invokespecial 1, 3) := by decide +kernel
theorem dX11_init_4 : decode cX11_init 4 = .ok (.aload_n 0, 1) := by decide +kernel
theorem dX11_init_5 : decode cX11_init 5 = .ok (.new 7, 3) := by decide +kernel
theorem dX11_init_8 : decode cX11_init 8 = .ok (.dup, 1) := by decide +kernel
theorem dX11_init_9 : decode cX11_init 9 = .ok (.invokespecial 9, 3) := by decide +kernel
theorem dX11_init_12 : decode cX11_init 12 = .ok (.putfield 10, 3) := by decide +kernel
theorem dX11_init_15 : decode cX11_init 15 = .ok (.aload_n 0, 1) := by decide +kernel
theorem dX11_init_16 : decode cX11_init 16 = .ok (.new 16, 3) := by decide +kernel
theorem dX11_init_19 : decode cX11_init 19 = .ok (.dup, 1) := by decide +kernel
theorem dX11_init_20 : decode cX11_init 20 = .ok (.invokespecial 18, 3) := by decide +kernel
theorem dX11_init_23 : decode cX11_init 23 = .ok (.putfield 19, 3) := by decide +kernel
theorem dX11_init_26 : decode cX11_init 26 = .ok (.aload_n 0, 1) := by decide +kernel
theorem dX11_init_27 : decode cX11_init 27 = .ok (.new 23, 3) := by decide +kernel
theorem dX11_init_30 : decode cX11_init 30 = .ok (.dup, 1) := by decide +kernel
theorem dX11_init_31 : decode cX11_init 31 = .ok (.invokespecial 25, 3) := by decide +kernel
theorem dX11_init_34 : decode cX11_init 34 = .ok (.putfield 26, 3) := by decide +kernel
theorem dX11_init_37 : decode cX11_init 37 = .ok (.aload_n 0, 1) := by decide +kernel
theorem dX11_init_38 : decode cX11_init 38 = .ok (.new 30, 3) := by decide +kernel
theorem dX11_init_41 : decode cX11_init 41 = .ok (.dup, 1) := by decide +kernel
theorem dX11_init_42 : decode cX11_init 42 = .ok (.aload_n 0, 1) := by decide +kernel
theorem dX11_init_43 : decode cX11_init 43 = .ok (.getfield 19, 3) := by decide +kernel
theorem dX11_init_46 : decode cX11_init 46 = .ok (.aload_n 0, 1) := by decide +kernel
theorem dX11_init_47 : decode cX11_init 47 = .ok (.getfield 26, 3) := by decide +kernel
theorem dX11_init_50 : decode cX11_init 50 = .ok (.invokespecial 32, 3) := by decide +kernel
theorem dX11_init_53 : decode cX11_init 53 = .ok (.putfield 35, 3) := by decide +kernel
theorem dX11_init_56 : decode cX11_init 56 = .ok (.aload_n 0, 1) := by decide +kernel
theorem dX11_init_57 : decode cX11_init 57 = .ok (.new 23, 3) := by decide +kernel
theorem dX11_init_60 : decode cX11_init 60 = .ok (.dup, 1) := by decide +kernel
theorem dX11_init_61 : decode cX11_init 61 = .ok (.invokespecial 25, 3) := by decide +kernel
theorem dX11_init_64 : decode cX11_init 64 = .ok (.putfield 39, 3) := by decide +kernel
theorem dX11_init_67 : decode cX11_init 67 = .ok (.aload_n 0, 1) := by decide +kernel
theorem dX11_init_68 : decode cX11_init 68 = .ok (.new 42, 3) := by decide +kernel
theorem dX11_init_71 : decode cX11_init 71 = .ok (.dup, 1) := by decide +kernel
theorem dX11_init_72 : decode cX11_init 72 = .ok (.bipush 40, 2) := by decide +kernel
theorem dX11_init_74 : decode cX11_init 74 = .ok (.invokespecial 44, 3) := by decide +kernel
theorem dX11_init_77 : decode cX11_init 77 = .ok (.putfield 47, 3) := by decide +kernel
theorem dX11_init_80 : decode cX11_init 80 = .ok (.aload_n 0, 1) := by decide +kernel
theorem dX11_init_81 : decode cX11_init 81 = .ok (.new 42, 3) := by decide +kernel
theorem dX11_init_84 : decode cX11_init 84 = .ok (.dup, 1) := by decide +kernel
theorem dX11_init_85 : decode cX11_init 85 = .ok (.iconst 0, 1) := by decide +kernel
theorem dX11_init_86 : decode cX11_init 86 = .ok (.invokespecial 44, 3) := by decide +kernel
theorem dX11_init_89 : decode cX11_init 89 = .ok (.putfield 51, 3) := by decide +kernel
theorem dX11_init_92 : decode cX11_init 92 = .ok (.aload_n 0, 1) := by decide +kernel
theorem dX11_init_93 : decode cX11_init 93 = .ok (.new 54, 3) := by decide +kernel
theorem dX11_init_96 : decode cX11_init 96 = .ok (.dup, 1) := by decide +kernel
theorem dX11_init_97 : decode cX11_init 97 = .ok (.invokespecial 56, 3) := by decide +kernel
theorem dX11_init_100 : decode cX11_init 100 = .ok (.putfield 57, 3) := by decide +kernel
theorem dX11_init_103 : decode cX11_init 103 = .ok (.aload_n 0, 1) := by decide +kernel
theorem dX11_init_104 : decode cX11_init 104 = .ok (.iconst 4, 1) := by decide +kernel
theorem dX11_init_105 : decode cX11_init 105 = .ok (.anewarray 42, 3) := by decide +kernel
theorem dX11_init_108 : decode cX11_init 108 = .ok (.putfield 61, 3) := by decide +kernel
theorem dX11_init_111 : decode cX11_init 111 = .ok (.aload_n 0, 1) := by decide +kernel
theorem dX11_init_112 : decode cX11_init 112 = .ok (.iconst 4, 1) := by decide +kernel
theorem dX11_init_113 : decode cX11_init 113 = .ok (.newarray .boolean, 2) := by decide +kernel
theorem dX11_init_115 : decode cX11_init 115 = .ok (.putfield 65, 3) := by decide +kernel
theorem dX11_init_118 : decode cX11_init 118 = .ok (.aload_n 0, 1) := by decide +kernel
theorem dX11_init_119 : decode cX11_init 119 = .ok (.new 69, 3) := by decide +kernel
theorem dX11_init_122 : decode cX11_init 122 = .ok (.dup, 1) := by decide +kernel
theorem dX11_init_123 : decode cX11_init 123 = .ok (.aload_n 0, 1) := by decide +kernel
theorem dX11_init_124 : decode cX11_init 124 = .ok (.getfield 39, 3) := by decide +kernel
theorem dX11_init_127 : decode cX11_init 127 = .ok (.invokespecial 71, 3) := by decide +kernel
theorem dX11_init_130 : decode cX11_init 130 = .ok (.putfield 74, 3) := by decide +kernel
theorem dX11_init_133 : decode cX11_init 133 = .ok (.aload_n 0, 1) := by decide +kernel
theorem dX11_init_134 : decode cX11_init 134 = .ok (.new 78, 3) := by decide +kernel
theorem dX11_init_137 : decode cX11_init 137 = .ok (.dup, 1) := by decide +kernel
theorem dX11_init_138 : decode cX11_init 138 = .ok (.aload_n 0, 1) := by decide +kernel
theorem dX11_init_139 : decode cX11_init 139 = .ok (.getfield 39, 3) := by decide +kernel
theorem dX11_init_142 : decode cX11_init 142 = .ok (.aload_n 0, 1) := by decide +kernel
theorem dX11_init_143 : decode cX11_init 143 = .ok (.getfield 74, 3) := by decide +kernel
theorem dX11_init_146 : decode cX11_init 146 = .ok (.invokespecial 80, 3) := by decide +kernel
theorem dX11_init_149 : decode cX11_init 149 = .ok (.putfield 83, 3) := by decide +kernel
theorem dX11_init_152 : decode cX11_init 152 = .ok (.aload_n 0, 1) := by decide +kernel
theorem dX11_init_153 : decode cX11_init 153 = .ok (.new 87, 3) := by decide +kernel
theorem dX11_init_156 : decode cX11_init 156 = .ok (.dup, 1) := by decide +kernel
theorem dX11_init_157 : decode cX11_init 157 = .ok (.aload_n 0, 1) := by decide +kernel
theorem dX11_init_158 : decode cX11_init 158 = .ok (.getfield 39, 3) := by decide +kernel
theorem dX11_init_161 : decode cX11_init 161 = .ok (.aload_n 0, 1) := by decide +kernel
theorem dX11_init_162 : decode cX11_init 162 = .ok (.getfield 74, 3) := by decide +kernel
theorem dX11_init_165 : decode cX11_init 165 = .ok (.aload_n 0, 1) := by decide +kernel
theorem dX11_init_166 : decode cX11_init 166 = .ok (.getfield 83, 3) := by decide +kernel
theorem dX11_init_169 : decode cX11_init 169 = .ok (.invokespecial 89, 3) := by decide +kernel
theorem dX11_init_172 : decode cX11_init 172 = .ok (.putfield 92, 3) := by decide +kernel
theorem dX11_init_175 : decode cX11_init 175 = .ok (.return_, 1) := by decide +kernel
theorem dX11_feed_0 : decode cX11_feed 0 = .ok (.aload_n 0, 1) := by decide +kernel
theorem dX11_feed_1 : decode cX11_feed 1 = .ok (.getfield 10, 3) := by decide +kernel
theorem dX11_feed_4 : decode cX11_feed 4 = .ok (.lload_n 1, 1) := by decide +kernel
theorem dX11_feed_5 : decode cX11_feed 5 = .ok (.invokevirtual 96, 3) := by decide +kernel
theorem dX11_feed_8 : decode cX11_feed 8 = .ok (.aload_n 0, 1) := by decide +kernel
theorem dX11_feed_9 : decode cX11_feed 9 = .ok (.getfield 10, 3) := by decide +kernel
theorem dX11_feed_12 : decode cX11_feed 12 = .ok (.lload_n 3, 1) := by decide +kernel
theorem dX11_feed_13 : decode cX11_feed 13 = .ok (.invokevirtual 96, 3) := by decide +kernel
theorem dX11_feed_16 : decode cX11_feed 16 = .ok (.aload_n 0, 1) := by decide +kernel
theorem dX11_feed_17 : decode cX11_feed 17 = .ok (.getfield 10, 3) := by decide +kernel
theorem dX11_feed_20 : decode cX11_feed 20 = .ok (.lload 5, 2) := by decide +kernel
theorem dX11_feed_22 : decode cX11_feed 22 = .ok (.invokevirtual 96, 3) := by decide +kernel
theorem dX11_feed_25 : decode cX11_feed 25 = .ok (.aload_n 0, 1) := by decide +kernel
theorem dX11_feed_26 : decode cX11_feed 26 = .ok (.getfield 10, 3) := by decide +kernel
theorem dX11_feed_29 : decode cX11_feed 29 = .ok (.getfield 100, 3) := by decide +kernel
theorem dX11_feed_32 : decode cX11_feed 32 = .ok (.ireturn, 1) := by decide +kernel
theorem dX11_net_0 : decode cX11_net 0 = .ok (.aload_n 0, 1) := by decide +kernel
theorem dX11_net_1 : decode cX11_net 1 = .ok (.getfield 19, 3) := by decide +kernel
theorem dX11_net_4 : decode cX11_net 4 = .ok (.aload_n 0, 1) := by decide +kernel
theorem dX11_net_5 : decode cX11_net 5 = .ok (.getfield 10, 3) := by decide +kernel
theorem dX11_net_8 : decode cX11_net 8 = .ok (.invokevirtual 104, 3) := by decide +kernel
theorem dX11_net_11 : decode cX11_net 11 = .ok (.aload_n 0, 1) := by decide +kernel
theorem dX11_net_12 : decode cX11_net 12 = .ok (.getfield 10, 3) := by decide +kernel
theorem dX11_net_15 : decode cX11_net 15 = .ok (.iconst 0, 1) := by decide +kernel
theorem dX11_net_16 : decode cX11_net 16 = .ok (.putfield 100, 3) := by decide +kernel
theorem dX11_net_19 : decode cX11_net 19 = .ok (.aload_n 0, 1) := by decide +kernel
theorem dX11_net_20 : decode cX11_net 20 = .ok (.getfield 35, 3) := by decide +kernel
theorem dX11_net_23 : decode cX11_net 23 = .ok (.invokevirtual 108, 3) := by decide +kernel
theorem dX11_net_26 : decode cX11_net 26 = .ok (.istore_n 1, 1) := by decide +kernel
theorem dX11_net_27 : decode cX11_net 27 = .ok (.iload_n 1, 1) := by decide +kernel
theorem dX11_net_28 : decode cX11_net 28 = .ok (.ifCond .eq 5, 3) := by decide +kernel
theorem dX11_net_31 : decode cX11_net 31 = .ok (.iload_n 1, 1) := by decide +kernel
theorem dX11_net_32 : decode cX11_net 32 = .ok (.ireturn, 1) := by decide +kernel
theorem dX11_net_33 : decode cX11_net 33 = .ok (.aload_n 0, 1) := by decide +kernel
theorem dX11_net_34 : decode cX11_net 34 = .ok (.getfield 39, 3) := by decide +kernel
theorem dX11_net_37 : decode cX11_net 37 = .ok (.aload_n 0, 1) := by decide +kernel
theorem dX11_net_38 : decode cX11_net 38 = .ok (.getfield 26, 3) := by decide +kernel
theorem dX11_net_41 : decode cX11_net 41 = .ok (.invokevirtual 112, 3) := by decide +kernel
theorem dX11_net_44 : decode cX11_net 44 = .ok (.aload_n 0, 1) := by decide +kernel
theorem dX11_net_45 : decode cX11_net 45 = .ok (.getfield 47, 3) := by decide +kernel
theorem dX11_net_48 : decode cX11_net 48 = .ok (.aload_n 0, 1) := by decide +kernel
theorem dX11_net_49 : decode cX11_net 49 = .ok (.getfield 39, 3) := by decide +kernel
theorem dX11_net_52 : decode cX11_net 52 = .ok (.invokevirtual 115, 3) := by decide +kernel
theorem dX11_net_55 : decode cX11_net 55 = .ok (.iconst 0, 1) := by decide +kernel
theorem dX11_net_56 : decode cX11_net 56 = .ok (.istore_n 2, 1) := by decide +kernel
theorem dX11_net_57 : decode cX11_net 57 = .ok (.iload_n 2, 1) := by decide +kernel
theorem dX11_net_58 : decode cX11_net 58 = .ok (.iconst 4, 1) := by decide +kernel
theorem dX11_net_59 : decode cX11_net 59 = .ok (.if_icmp .ge 16, 3) := by decide +kernel
theorem dX11_net_62 : decode cX11_net 62 = .ok (.aload_n 0, 1) := by decide +kernel
theorem dX11_net_63 : decode cX11_net 63 = .ok (.getfield 65, 3) := by decide +kernel
theorem dX11_net_66 : decode cX11_net 66 = .ok (.iload_n 2, 1) := by decide +kernel
theorem dX11_net_67 : decode cX11_net 67 = .ok (.iconst 0, 1) := by decide +kernel
theorem dX11_net_68 : decode cX11_net 68 = .ok (.bastore, 1) := by decide +kernel
theorem dX11_net_69 : decode cX11_net 69 = .ok (.iinc 2 1, 3) := by decide +kernel
theorem dX11_net_72 : decode cX11_net 72 = .ok (.goto (-15), 3) := by decide +kernel
theorem dX11_net_75 : decode cX11_net 75 = .ok (.iconst 0, 1) := by decide +kernel
theorem dX11_net_76 : decode cX11_net 76 = .ok (.ireturn, 1) := by decide +kernel
theorem dX11_stuff_0 : decode cX11_stuff 0 = .ok (.aload_n 0, 1) := by decide +kernel
theorem dX11_stuff_1 : decode cX11_stuff 1 = .ok (.iload_n 1, 1) := by decide +kernel
theorem dX11_stuff_2 : decode cX11_stuff 2 = .ok (.invokevirtual 118, 3) := by decide +kernel
theorem dX11_stuff_5 : decode cX11_stuff 5 = .ok (.ifCond .ne 5, 3) := by decide +kernel
theorem dX11_stuff_8 : decode cX11_stuff 8 = .ok (.iconst (-1), 1) := by decide +kernel
theorem dX11_stuff_9 : decode cX11_stuff 9 = .ok (.ireturn, 1) := by decide +kernel
theorem dX11_stuff_10 : decode cX11_stuff 10 = .ok (.iload_n 2, 1) := by decide +kernel
theorem dX11_stuff_11 : decode cX11_stuff 11 = .ok (.tableswitch 55 0 2 #[25, 35, 45], 25) := by decide +kernel
theorem dX11_stuff_36 : decode cX11_stuff 36 = .ok (.aload_n 0, 1) := by decide +kernel
theorem dX11_stuff_37 : decode cX11_stuff 37 = .ok (.getfield 39, 3) := by decide +kernel
theorem dX11_stuff_40 : decode cX11_stuff 40 = .ok (.getfield 122, 3) := by decide +kernel
theorem dX11_stuff_43 : decode cX11_stuff 43 = .ok (.iload_n 1, 1) := by decide +kernel
theorem dX11_stuff_44 : decode cX11_stuff 44 = .ok (.iaload, 1) := by decide +kernel
theorem dX11_stuff_45 : decode cX11_stuff 45 = .ok (.ireturn, 1) := by decide +kernel
theorem dX11_stuff_46 : decode cX11_stuff 46 = .ok (.aload_n 0, 1) := by decide +kernel
theorem dX11_stuff_47 : decode cX11_stuff 47 = .ok (.getfield 39, 3) := by decide +kernel
theorem dX11_stuff_50 : decode cX11_stuff 50 = .ok (.getfield 126, 3) := by decide +kernel
theorem dX11_stuff_53 : decode cX11_stuff 53 = .ok (.iload_n 1, 1) := by decide +kernel
theorem dX11_stuff_54 : decode cX11_stuff 54 = .ok (.iaload, 1) := by decide +kernel
theorem dX11_stuff_55 : decode cX11_stuff 55 = .ok (.ireturn, 1) := by decide +kernel
theorem dX11_stuff_56 : decode cX11_stuff 56 = .ok (.aload_n 0, 1) := by decide +kernel
theorem dX11_stuff_57 : decode cX11_stuff 57 = .ok (.getfield 47, 3) := by decide +kernel
theorem dX11_stuff_60 : decode cX11_stuff 60 = .ok (.getfield 129, 3) := by decide +kernel
theorem dX11_stuff_63 : decode cX11_stuff 63 = .ok (.iload_n 1, 1) := by decide +kernel
theorem dX11_stuff_64 : decode cX11_stuff 64 = .ok (.iaload, 1) := by decide +kernel
theorem dX11_stuff_65 : decode cX11_stuff 65 = .ok (.ireturn, 1) := by decide +kernel
theorem dX11_stuff_66 : decode cX11_stuff 66 = .ok (.iconst (-1), 1) := by decide +kernel
theorem dX11_stuff_67 : decode cX11_stuff 67 = .ok (.ireturn, 1) := by decide +kernel
theorem dX11_road_0 : decode cX11_road 0 = .ok (.aload_n 0, 1) := by decide +kernel
theorem dX11_road_1 : decode cX11_road 1 = .ok (.iload_n 1, 1) := by decide +kernel
theorem dX11_road_2 : decode cX11_road 2 = .ok (.invokevirtual 132, 3) := by decide +kernel
theorem dX11_road_5 : decode cX11_road 5 = .ok (.ifCond .ne 5, 3) := by decide +kernel
theorem dX11_road_8 : decode cX11_road 8 = .ok (.iconst (-1), 1) := by decide +kernel
theorem dX11_road_9 : decode cX11_road 9 = .ok (.ireturn, 1) := by decide +kernel
theorem dX11_road_10 : decode cX11_road 10 = .ok (.iload_n 2, 1) := by decide +kernel
theorem dX11_road_11 : decode cX11_road 11 = .ok (.tableswitch 130 0 6 #[41, 51, 61, 71, 81, 97, 113], 41) := by decide +kernel
theorem dX11_road_52 : decode cX11_road 52 = .ok (.aload_n 0, 1) := by decide +kernel
theorem dX11_road_53 : decode cX11_road 53 = .ok (.getfield 39, 3) := by decide +kernel
theorem dX11_road_56 : decode cX11_road 56 = .ok (.getfield 135, 3) := by decide +kernel
theorem dX11_road_59 : decode cX11_road 59 = .ok (.iload_n 1, 1) := by decide +kernel
theorem dX11_road_60 : decode cX11_road 60 = .ok (.iaload, 1) := by decide +kernel
theorem dX11_road_61 : decode cX11_road 61 = .ok (.ireturn, 1) := by decide +kernel
theorem dX11_road_62 : decode cX11_road 62 = .ok (.aload_n 0, 1) := by decide +kernel
theorem dX11_road_63 : decode cX11_road 63 = .ok (.getfield 39, 3) := by decide +kernel
theorem dX11_road_66 : decode cX11_road 66 = .ok (.getfield 138, 3) := by decide +kernel
theorem dX11_road_69 : decode cX11_road 69 = .ok (.iload_n 1, 1) := by decide +kernel
theorem dX11_road_70 : decode cX11_road 70 = .ok (.iaload, 1) := by decide +kernel
theorem dX11_road_71 : decode cX11_road 71 = .ok (.ireturn, 1) := by decide +kernel
theorem dX11_road_72 : decode cX11_road 72 = .ok (.aload_n 0, 1) := by decide +kernel
theorem dX11_road_73 : decode cX11_road 73 = .ok (.getfield 39, 3) := by decide +kernel
theorem dX11_road_76 : decode cX11_road 76 = .ok (.getfield 141, 3) := by decide +kernel
theorem dX11_road_79 : decode cX11_road 79 = .ok (.iload_n 1, 1) := by decide +kernel
theorem dX11_road_80 : decode cX11_road 80 = .ok (.iaload, 1) := by decide +kernel
theorem dX11_road_81 : decode cX11_road 81 = .ok (.ireturn, 1) := by decide +kernel
theorem dX11_road_82 : decode cX11_road 82 = .ok (.aload_n 0, 1) := by decide +kernel
theorem dX11_road_83 : decode cX11_road 83 = .ok (.getfield 47, 3) := by decide +kernel
theorem dX11_road_86 : decode cX11_road 86 = .ok (.getfield 144, 3) := by decide +kernel
theorem dX11_road_89 : decode cX11_road 89 = .ok (.iload_n 1, 1) := by decide +kernel
theorem dX11_road_90 : decode cX11_road 90 = .ok (.iaload, 1) := by decide +kernel
theorem dX11_road_91 : decode cX11_road 91 = .ok (.ireturn, 1) := by decide +kernel
theorem dX11_road_92 : decode cX11_road 92 = .ok (.aload_n 0, 1) := by decide +kernel
theorem dX11_road_93 : decode cX11_road 93 = .ok (.getfield 47, 3) := by decide +kernel
theorem dX11_road_96 : decode cX11_road 96 = .ok (.iload_n 1, 1) := by decide +kernel
theorem dX11_road_97 : decode cX11_road 97 = .ok (.aload_n 0, 1) := by decide +kernel
theorem dX11_road_98 : decode cX11_road 98 = .ok (.getfield 39, 3) := by decide +kernel
theorem dX11_road_101 : decode cX11_road 101 = .ok (.getfield 122, 3) := by decide +kernel
theorem dX11_road_104 : decode cX11_road 104 = .ok (.invokevirtual 147, 3) := by decide +kernel
theorem dX11_road_107 : decode cX11_road 107 = .ok (.ireturn, 1) := by decide +kernel
theorem dX11_road_108 : decode cX11_road 108 = .ok (.aload_n 0, 1) := by decide +kernel
theorem dX11_road_109 : decode cX11_road 109 = .ok (.getfield 47, 3) := by decide +kernel
theorem dX11_road_112 : decode cX11_road 112 = .ok (.iload_n 1, 1) := by decide +kernel
theorem dX11_road_113 : decode cX11_road 113 = .ok (.aload_n 0, 1) := by decide +kernel
theorem dX11_road_114 : decode cX11_road 114 = .ok (.getfield 39, 3) := by decide +kernel
theorem dX11_road_117 : decode cX11_road 117 = .ok (.getfield 126, 3) := by decide +kernel
theorem dX11_road_120 : decode cX11_road 120 = .ok (.invokevirtual 147, 3) := by decide +kernel
theorem dX11_road_123 : decode cX11_road 123 = .ok (.ireturn, 1) := by decide +kernel
theorem dX11_road_124 : decode cX11_road 124 = .ok (.aload_n 0, 1) := by decide +kernel
theorem dX11_road_125 : decode cX11_road 125 = .ok (.getfield 47, 3) := by decide +kernel
theorem dX11_road_128 : decode cX11_road 128 = .ok (.iload_n 1, 1) := by decide +kernel
theorem dX11_road_129 : decode cX11_road 129 = .ok (.invokevirtual 151, 3) := by decide +kernel
theorem dX11_road_132 : decode cX11_road 132 = .ok (.ifCond .eq 7, 3) := by decide +kernel
theorem dX11_road_135 : decode cX11_road 135 = .ok (.iconst 1, 1) := by decide +kernel
theorem dX11_road_136 : decode cX11_road 136 = .ok (.goto 4, 3) := by decide +kernel
theorem dX11_road_139 : decode cX11_road 139 = .ok (.iconst 0, 1) := by decide +kernel
theorem dX11_road_140 : decode cX11_road 140 = .ok (.ireturn, 1) := by decide +kernel
theorem dX11_road_141 : decode cX11_road 141 = .ok (.iconst (-1), 1) := by decide +kernel
theorem dX11_road_142 : decode cX11_road 142 = .ok (.ireturn, 1) := by decide +kernel
theorem dX11_surface_0 : decode cX11_surface 0 = .ok (.aload_n 0, 1) := by decide +kernel
theorem dX11_surface_1 : decode cX11_surface 1 = .ok (.iload_n 1, 1) := by decide +kernel
theorem dX11_surface_2 : decode cX11_surface 2 = .ok (.invokevirtual 132, 3) := by decide +kernel
theorem dX11_surface_5 : decode cX11_surface 5 = .ok (.ifCond .eq 27, 3) := by decide +kernel
theorem dX11_surface_8 : decode cX11_surface 8 = .ok (.aload_n 0, 1) := by decide +kernel
theorem dX11_surface_9 : decode cX11_surface 9 = .ok (.iload_n 2, 1) := by decide +kernel
theorem dX11_surface_10 : decode cX11_surface 10 = .ok (.invokevirtual 118, 3) := by decide +kernel
theorem dX11_surface_13 : decode cX11_surface 13 = .ok (.ifCond .eq 19, 3) := by decide +kernel
theorem dX11_surface_16 : decode cX11_surface 16 = .ok (.aload_n 0, 1) := by decide +kernel
theorem dX11_surface_17 : decode cX11_surface 17 = .ok (.getfield 47, 3) := by decide +kernel
theorem dX11_surface_20 : decode cX11_surface 20 = .ok (.getfield 154, 3) := by decide +kernel
theorem dX11_surface_23 : decode cX11_surface 23 = .ok (.iload_n 1, 1) := by decide +kernel
theorem dX11_surface_24 : decode cX11_surface 24 = .ok (.iload_n 2, 1) := by decide +kernel
theorem dX11_surface_25 : decode cX11_surface 25 = .ok (.invokestatic 157, 3) := by decide +kernel
theorem dX11_surface_28 : decode cX11_surface 28 = .ok (.iaload, 1) := by decide +kernel
theorem dX11_surface_29 : decode cX11_surface 29 = .ok (.goto 4, 3) := by decide +kernel
theorem dX11_surface_32 : decode cX11_surface 32 = .ok (.iconst (-1), 1) := by decide +kernel
theorem dX11_surface_33 : decode cX11_surface 33 = .ok (.ireturn, 1) := by decide +kernel
theorem dX11_trade_0 : decode cX11_trade 0 = .ok (.aload_n 0, 1) := by decide +kernel
theorem dX11_trade_1 : decode cX11_trade 1 = .ok (.iload_n 1, 1) := by decide +kernel
theorem dX11_trade_2 : decode cX11_trade 2 = .ok (.invokevirtual 161, 3) := by decide +kernel
theorem dX11_trade_5 : decode cX11_trade 5 = .ok (.ifCond .ne 5, 3) := by decide +kernel
theorem dX11_trade_8 : decode cX11_trade 8 = .ok (.iconst (-1), 1) := by decide +kernel
theorem dX11_trade_9 : decode cX11_trade 9 = .ok (.ireturn, 1) := by decide +kernel
theorem dX11_trade_10 : decode cX11_trade 10 = .ok (.iload_n 2, 1) := by decide +kernel
theorem dX11_trade_11 : decode cX11_trade 11 = .ok (.tableswitch 109 0 5 #[37, 50, 63, 76, 89, 99], 37) := by decide +kernel
theorem dX11_trade_48 : decode cX11_trade 48 = .ok (.aload_n 0, 1) := by decide +kernel
theorem dX11_trade_49 : decode cX11_trade 49 = .ok (.getfield 39, 3) := by decide +kernel
theorem dX11_trade_52 : decode cX11_trade 52 = .ok (.getfield 164, 3) := by decide +kernel
theorem dX11_trade_55 : decode cX11_trade 55 = .ok (.getfield 167, 3) := by decide +kernel
theorem dX11_trade_58 : decode cX11_trade 58 = .ok (.iload_n 1, 1) := by decide +kernel
theorem dX11_trade_59 : decode cX11_trade 59 = .ok (.iaload, 1) := by decide +kernel
theorem dX11_trade_60 : decode cX11_trade 60 = .ok (.ireturn, 1) := by decide +kernel
theorem dX11_trade_61 : decode cX11_trade 61 = .ok (.aload_n 0, 1) := by decide +kernel
theorem dX11_trade_62 : decode cX11_trade 62 = .ok (.getfield 39, 3) := by decide +kernel
theorem dX11_trade_65 : decode cX11_trade 65 = .ok (.getfield 164, 3) := by decide +kernel
theorem dX11_trade_68 : decode cX11_trade 68 = .ok (.getfield 170, 3) := by decide +kernel
theorem dX11_trade_71 : decode cX11_trade 71 = .ok (.iload_n 1, 1) := by decide +kernel
theorem dX11_trade_72 : decode cX11_trade 72 = .ok (.iaload, 1) := by decide +kernel
theorem dX11_trade_73 : decode cX11_trade 73 = .ok (.ireturn, 1) := by decide +kernel
theorem dX11_trade_74 : decode cX11_trade 74 = .ok (.aload_n 0, 1) := by decide +kernel
theorem dX11_trade_75 : decode cX11_trade 75 = .ok (.getfield 39, 3) := by decide +kernel
theorem dX11_trade_78 : decode cX11_trade 78 = .ok (.getfield 164, 3) := by decide +kernel
theorem dX11_trade_81 : decode cX11_trade 81 = .ok (.getfield 173, 3) := by decide +kernel
theorem dX11_trade_84 : decode cX11_trade 84 = .ok (.iload_n 1, 1) := by decide +kernel
theorem dX11_trade_85 : decode cX11_trade 85 = .ok (.iaload, 1) := by decide +kernel
theorem dX11_trade_86 : decode cX11_trade 86 = .ok (.ireturn, 1) := by decide +kernel
theorem dX11_trade_87 : decode cX11_trade 87 = .ok (.aload_n 0, 1) := by decide +kernel
theorem dX11_trade_88 : decode cX11_trade 88 = .ok (.getfield 39, 3) := by decide +kernel
theorem dX11_trade_91 : decode cX11_trade 91 = .ok (.getfield 164, 3) := by decide +kernel
theorem dX11_trade_94 : decode cX11_trade 94 = .ok (.getfield 176, 3) := by decide +kernel
theorem dX11_trade_97 : decode cX11_trade 97 = .ok (.iload_n 1, 1) := by decide +kernel
theorem dX11_trade_98 : decode cX11_trade 98 = .ok (.iaload, 1) := by decide +kernel
theorem dX11_trade_99 : decode cX11_trade 99 = .ok (.ireturn, 1) := by decide +kernel
theorem dX11_trade_100 : decode cX11_trade 100 = .ok (.aload_n 0, 1) := by decide +kernel
theorem dX11_trade_101 : decode cX11_trade 101 = .ok (.getfield 47, 3) := by decide +kernel
theorem dX11_trade_104 : decode cX11_trade 104 = .ok (.getfield 179, 3) := by decide +kernel
theorem dX11_trade_107 : decode cX11_trade 107 = .ok (.iload_n 1, 1) := by decide +kernel
theorem dX11_trade_108 : decode cX11_trade 108 = .ok (.iaload, 1) := by decide +kernel
theorem dX11_trade_109 : decode cX11_trade 109 = .ok (.ireturn, 1) := by decide +kernel
theorem dX11_trade_110 : decode cX11_trade 110 = .ok (.aload_n 0, 1) := by decide +kernel
theorem dX11_trade_111 : decode cX11_trade 111 = .ok (.getfield 47, 3) := by decide +kernel
theorem dX11_trade_114 : decode cX11_trade 114 = .ok (.getfield 182, 3) := by decide +kernel
theorem dX11_trade_117 : decode cX11_trade 117 = .ok (.iload_n 1, 1) := by decide +kernel
theorem dX11_trade_118 : decode cX11_trade 118 = .ok (.iaload, 1) := by decide +kernel
theorem dX11_trade_119 : decode cX11_trade 119 = .ok (.ireturn, 1) := by decide +kernel
theorem dX11_trade_120 : decode cX11_trade 120 = .ok (.iconst (-1), 1) := by decide +kernel
theorem dX11_trade_121 : decode cX11_trade 121 = .ok (.ireturn, 1) := by decide +kernel
theorem dX11_way_0 : decode cX11_way 0 = .ok (.aload_n 0, 1) := by decide +kernel
theorem dX11_way_1 : decode cX11_way 1 = .ok (.iload_n 1, 1) := by decide +kernel
theorem dX11_way_2 : decode cX11_way 2 = .ok (.invokevirtual 161, 3) := by decide +kernel
theorem dX11_way_5 : decode cX11_way 5 = .ok (.ifCond .eq 26, 3) := by decide +kernel
theorem dX11_way_8 : decode cX11_way 8 = .ok (.aload_n 0, 1) := by decide +kernel
theorem dX11_way_9 : decode cX11_way 9 = .ok (.iload_n 1, 1) := by decide +kernel
theorem dX11_way_10 : decode cX11_way 10 = .ok (.invokevirtual 185, 3) := by decide +kernel
theorem dX11_way_13 : decode cX11_way 13 = .ok (.ifCond .eq 18, 3) := by decide +kernel
theorem dX11_way_16 : decode cX11_way 16 = .ok (.iload_n 2, 1) := by decide +kernel
theorem dX11_way_17 : decode cX11_way 17 = .ok (.ifCond .lt 14, 3) := by decide +kernel
theorem dX11_way_20 : decode cX11_way 20 = .ok (.iload_n 2, 1) := by decide +kernel
theorem dX11_way_21 : decode cX11_way 21 = .ok (.aload_n 0, 1) := by decide +kernel
theorem dX11_way_22 : decode cX11_way 22 = .ok (.getfield 83, 3) := by decide +kernel
theorem dX11_way_25 : decode cX11_way 25 = .ok (.getfield 188, 3) := by decide +kernel
theorem dX11_way_28 : decode cX11_way 28 = .ok (.if_icmp .lt 5, 3) := by decide +kernel
theorem dX11_way_31 : decode cX11_way 31 = .ok (.iconst (-1), 1) := by decide +kernel
theorem dX11_way_32 : decode cX11_way 32 = .ok (.ireturn, 1) := by decide +kernel
theorem dX11_way_33 : decode cX11_way 33 = .ok (.aload_n 0, 1) := by decide +kernel
theorem dX11_way_34 : decode cX11_way 34 = .ok (.getfield 83, 3) := by decide +kernel
theorem dX11_way_37 : decode cX11_way 37 = .ok (.getfield 191, 3) := by decide +kernel
theorem dX11_way_40 : decode cX11_way 40 = .ok (.iload_n 2, 1) := by decide +kernel
theorem dX11_way_41 : decode cX11_way 41 = .ok (.iaload, 1) := by decide +kernel
theorem dX11_way_42 : decode cX11_way 42 = .ok (.ireturn, 1) := by decide +kernel
theorem dX11_cost_0 : decode cX11_cost 0 = .ok (.aload_n 0, 1) := by decide +kernel
theorem dX11_cost_1 : decode cX11_cost 1 = .ok (.iload_n 1, 1) := by decide +kernel
theorem dX11_cost_2 : decode cX11_cost 2 = .ok (.invokevirtual 161, 3) := by decide +kernel
theorem dX11_cost_5 : decode cX11_cost 5 = .ok (.ifCond .ne 13, 3) := by decide +kernel
theorem dX11_cost_8 : decode cX11_cost 8 = .ok (.new 194, 3) := by decide +kernel
theorem dX11_cost_11 : decode cX11_cost 11 = .ok (.dup, 1) := by decide +kernel
theorem dX11_cost_12 : decode cX11_cost 12 = .ok (.ldc 196, 2) := by decide +kernel
theorem dX11_cost_14 : decode cX11_cost 14 = .ok (.invokespecial 198, 3) := by decide +kernel
theorem dX11_cost_17 : decode cX11_cost 17 = .ok (.athrow, 1) := by decide +kernel
theorem dX11_cost_18 : decode cX11_cost 18 = .ok (.aload_n 0, 1) := by decide +kernel
theorem dX11_cost_19 : decode cX11_cost 19 = .ok (.iload_n 1, 1) := by decide +kernel
theorem dX11_cost_20 : decode cX11_cost 20 = .ok (.invokevirtual 185, 3) := by decide +kernel
theorem dX11_cost_23 : decode cX11_cost 23 = .ok (.ifCond .ne 13, 3) := by decide +kernel
theorem dX11_cost_26 : decode cX11_cost 26 = .ok (.new 194, 3) := by decide +kernel
theorem dX11_cost_29 : decode cX11_cost 29 = .ok (.dup, 1) := by decide +kernel
theorem dX11_cost_30 : decode cX11_cost 30 = .ok (.ldc 201, 2) := by decide +kernel
theorem dX11_cost_32 : decode cX11_cost 32 = .ok (.invokespecial 198, 3) := by decide +kernel
theorem dX11_cost_35 : decode cX11_cost 35 = .ok (.athrow, 1) := by decide +kernel
theorem dX11_cost_36 : decode cX11_cost 36 = .ok (.aload_n 0, 1) := by decide +kernel
theorem dX11_cost_37 : decode cX11_cost 37 = .ok (.getfield 83, 3) := by decide +kernel
theorem dX11_cost_40 : decode cX11_cost 40 = .ok (.getfield 203, 3) := by decide +kernel
theorem dX11_cost_43 : decode cX11_cost 43 = .ok (.ireturn, 1) := by decide +kernel
theorem dX11_shock_0 : decode cX11_shock 0 = .ok (.aload_n 0, 1) := by decide +kernel
theorem dX11_shock_1 : decode cX11_shock 1 = .ok (.iload_n 1, 1) := by decide +kernel
theorem dX11_shock_2 : decode cX11_shock 2 = .ok (.invokevirtual 132, 3) := by decide +kernel
theorem dX11_shock_5 : decode cX11_shock 5 = .ok (.ifCond .eq 11, 3) := by decide +kernel
theorem dX11_shock_8 : decode cX11_shock 8 = .ok (.aload_n 0, 1) := by decide +kernel
theorem dX11_shock_9 : decode cX11_shock 9 = .ok (.iload_n 2, 1) := by decide +kernel
theorem dX11_shock_10 : decode cX11_shock 10 = .ok (.invokevirtual 118, 3) := by decide +kernel
theorem dX11_shock_13 : decode cX11_shock 13 = .ok (.ifCond .ne 5, 3) := by decide +kernel
theorem dX11_shock_16 : decode cX11_shock 16 = .ok (.iconst (-1), 1) := by decide +kernel
theorem dX11_shock_17 : decode cX11_shock 17 = .ok (.ireturn, 1) := by decide +kernel
theorem dX11_shock_18 : decode cX11_shock 18 = .ok (.aload_n 0, 1) := by decide +kernel
theorem dX11_shock_19 : decode cX11_shock 19 = .ok (.getfield 74, 3) := by decide +kernel
theorem dX11_shock_22 : decode cX11_shock 22 = .ok (.aload_n 0, 1) := by decide +kernel
theorem dX11_shock_23 : decode cX11_shock 23 = .ok (.getfield 47, 3) := by decide +kernel
theorem dX11_shock_26 : decode cX11_shock 26 = .ok (.invokevirtual 206, 3) := by decide +kernel
theorem dX11_shock_29 : decode cX11_shock 29 = .ok (.aload_n 0, 1) := by decide +kernel
theorem dX11_shock_30 : decode cX11_shock 30 = .ok (.getfield 74, 3) := by decide +kernel
theorem dX11_shock_33 : decode cX11_shock 33 = .ok (.iload_n 1, 1) := by decide +kernel
theorem dX11_shock_34 : decode cX11_shock 34 = .ok (.iload_n 2, 1) := by decide +kernel
theorem dX11_shock_35 : decode cX11_shock 35 = .ok (.invokevirtual 210, 3) := by decide +kernel
theorem dX11_shock_38 : decode cX11_shock 38 = .ok (.ireturn, 1) := by decide +kernel
theorem dX11_years_0 : decode cX11_years 0 = .ok (.iload_n 1, 1) := by decide +kernel
theorem dX11_years_1 : decode cX11_years 1 = .ok (.invokestatic 213, 3) := by decide +kernel
theorem dX11_years_4 : decode cX11_years 4 = .ok (.ifCond .ne 5, 3) := by decide +kernel
theorem dX11_years_7 : decode cX11_years 7 = .ok (.iconst (-1), 1) := by decide +kernel
theorem dX11_years_8 : decode cX11_years 8 = .ok (.ireturn, 1) := by decide +kernel
theorem dX11_years_9 : decode cX11_years 9 = .ok (.iconst 0, 1) := by decide +kernel
theorem dX11_years_10 : decode cX11_years 10 = .ok (.istore_n 2, 1) := by decide +kernel
theorem dX11_years_11 : decode cX11_years 11 = .ok (.iload_n 2, 1) := by decide +kernel
theorem dX11_years_12 : decode cX11_years 12 = .ok (.iload_n 1, 1) := by decide +kernel
theorem dX11_years_13 : decode cX11_years 13 = .ok (.if_icmp .ge 28, 3) := by decide +kernel
theorem dX11_years_16 : decode cX11_years 16 = .ok (.aload_n 0, 1) := by decide +kernel
theorem dX11_years_17 : decode cX11_years 17 = .ok (.getfield 92, 3) := by decide +kernel
theorem dX11_years_20 : decode cX11_years 20 = .ok (.aload_n 0, 1) := by decide +kernel
theorem dX11_years_21 : decode cX11_years 21 = .ok (.getfield 47, 3) := by decide +kernel
theorem dX11_years_24 : decode cX11_years 24 = .ok (.aload_n 0, 1) := by decide +kernel
theorem dX11_years_25 : decode cX11_years 25 = .ok (.getfield 39, 3) := by decide +kernel
theorem dX11_years_28 : decode cX11_years 28 = .ok (.getfield 164, 3) := by decide +kernel
theorem dX11_years_31 : decode cX11_years 31 = .ok (.iconst (-1), 1) := by decide +kernel
theorem dX11_years_32 : decode cX11_years 32 = .ok (.invokevirtual 216, 3) := by decide +kernel
theorem dX11_years_35 : decode cX11_years 35 = .ok (.iinc 2 1, 3) := by decide +kernel
theorem dX11_years_38 : decode cX11_years 38 = .ok (.goto (-27), 3) := by decide +kernel
theorem dX11_years_41 : decode cX11_years 41 = .ok (.aload_n 0, 1) := by decide +kernel
theorem dX11_years_42 : decode cX11_years 42 = .ok (.getfield 47, 3) := by decide +kernel
theorem dX11_years_45 : decode cX11_years 45 = .ok (.getfield 220, 3) := by decide +kernel
theorem dX11_years_48 : decode cX11_years 48 = .ok (.ireturn, 1) := by decide +kernel
theorem dX11_lose_0 : decode cX11_lose 0 = .ok (.aload_n 0, 1) := by decide +kernel
theorem dX11_lose_1 : decode cX11_lose 1 = .ok (.iload_n 1, 1) := by decide +kernel
theorem dX11_lose_2 : decode cX11_lose 2 = .ok (.invokevirtual 132, 3) := by decide +kernel
theorem dX11_lose_5 : decode cX11_lose 5 = .ok (.ifCond .eq 21, 3) := by decide +kernel
theorem dX11_lose_8 : decode cX11_lose 8 = .ok (.aload_n 0, 1) := by decide +kernel
theorem dX11_lose_9 : decode cX11_lose 9 = .ok (.iload_n 2, 1) := by decide +kernel
theorem dX11_lose_10 : decode cX11_lose 10 = .ok (.invokevirtual 118, 3) := by decide +kernel
theorem dX11_lose_13 : decode cX11_lose 13 = .ok (.ifCond .eq 13, 3) := by decide +kernel
theorem dX11_lose_16 : decode cX11_lose 16 = .ok (.iload_n 3, 1) := by decide +kernel
theorem dX11_lose_17 : decode cX11_lose 17 = .ok (.ifCond .lt 9, 3) := by decide +kernel
theorem dX11_lose_20 : decode cX11_lose 20 = .ok (.iload_n 3, 1) := by decide +kernel
theorem dX11_lose_21 : decode cX11_lose 21 = .ok (.bipush 99, 2) := by decide +kernel
theorem dX11_lose_23 : decode cX11_lose 23 = .ok (.if_icmp .le 5, 3) := by decide +kernel
theorem dX11_lose_26 : decode cX11_lose 26 = .ok (.iconst 0, 1) := by decide +kernel
theorem dX11_lose_27 : decode cX11_lose 27 = .ok (.ireturn, 1) := by decide +kernel
theorem dX11_lose_28 : decode cX11_lose 28 = .ok (.aload_n 0, 1) := by decide +kernel
theorem dX11_lose_29 : decode cX11_lose 29 = .ok (.getfield 47, 3) := by decide +kernel
theorem dX11_lose_32 : decode cX11_lose 32 = .ok (.getfield 223, 3) := by decide +kernel
theorem dX11_lose_35 : decode cX11_lose 35 = .ok (.iload_n 1, 1) := by decide +kernel
theorem dX11_lose_36 : decode cX11_lose 36 = .ok (.iload_n 2, 1) := by decide +kernel
theorem dX11_lose_37 : decode cX11_lose 37 = .ok (.invokestatic 157, 3) := by decide +kernel
theorem dX11_lose_40 : decode cX11_lose 40 = .ok (.iload_n 3, 1) := by decide +kernel
theorem dX11_lose_41 : decode cX11_lose 41 = .ok (.iastore, 1) := by decide +kernel
theorem dX11_lose_42 : decode cX11_lose 42 = .ok (.iconst 1, 1) := by decide +kernel
theorem dX11_lose_43 : decode cX11_lose 43 = .ok (.ireturn, 1) := by decide +kernel
theorem dX11_layer_0 : decode cX11_layer 0 = .ok (.aload_n 0, 1) := by decide +kernel
theorem dX11_layer_1 : decode cX11_layer 1 = .ok (.iload_n 2, 1) := by decide +kernel
theorem dX11_layer_2 : decode cX11_layer 2 = .ok (.invokevirtual 132, 3) := by decide +kernel
theorem dX11_layer_5 : decode cX11_layer 5 = .ok (.ifCond .eq 33, 3) := by decide +kernel
theorem dX11_layer_8 : decode cX11_layer 8 = .ok (.aload_n 0, 1) := by decide +kernel
theorem dX11_layer_9 : decode cX11_layer 9 = .ok (.iload_n 3, 1) := by decide +kernel
theorem dX11_layer_10 : decode cX11_layer 10 = .ok (.invokevirtual 118, 3) := by decide +kernel
theorem dX11_layer_13 : decode cX11_layer 13 = .ok (.ifCond .eq 25, 3) := by decide +kernel
theorem dX11_layer_16 : decode cX11_layer 16 = .ok (.aload_n 0, 1) := by decide +kernel
theorem dX11_layer_17 : decode cX11_layer 17 = .ok (.getfield 47, 3) := by decide +kernel
theorem dX11_layer_20 : decode cX11_layer 20 = .ok (.iload_n 1, 1) := by decide +kernel
theorem dX11_layer_21 : decode cX11_layer 21 = .ok (.invokevirtual 226, 3) := by decide +kernel
theorem dX11_layer_24 : decode cX11_layer 24 = .ok (.ifCond .eq 14, 3) := by decide +kernel
theorem dX11_layer_27 : decode cX11_layer 27 = .ok (.iload_n 1, 1) := by decide +kernel
theorem dX11_layer_28 : decode cX11_layer 28 = .ok (.aload_n 0, 1) := by decide +kernel
theorem dX11_layer_29 : decode cX11_layer 29 = .ok (.getfield 47, 3) := by decide +kernel
theorem dX11_layer_32 : decode cX11_layer 32 = .ok (.getfield 220, 3) := by decide +kernel
theorem dX11_layer_35 : decode cX11_layer 35 = .ok (.if_icmp .lt 5, 3) := by decide +kernel
theorem dX11_layer_38 : decode cX11_layer 38 = .ok (.iconst (-1), 1) := by decide +kernel
theorem dX11_layer_39 : decode cX11_layer 39 = .ok (.ireturn, 1) := by decide +kernel
theorem dX11_layer_40 : decode cX11_layer 40 = .ok (.aload_n 0, 1) := by decide +kernel
theorem dX11_layer_41 : decode cX11_layer 41 = .ok (.getfield 47, 3) := by decide +kernel
theorem dX11_layer_44 : decode cX11_layer 44 = .ok (.getfield 229, 3) := by decide +kernel
theorem dX11_layer_47 : decode cX11_layer 47 = .ok (.iload_n 1, 1) := by decide +kernel
theorem dX11_layer_48 : decode cX11_layer 48 = .ok (.iload_n 2, 1) := by decide +kernel
theorem dX11_layer_49 : decode cX11_layer 49 = .ok (.iload_n 3, 1) := by decide +kernel
theorem dX11_layer_50 : decode cX11_layer 50 = .ok (.invokestatic 232, 3) := by decide +kernel
theorem dX11_layer_53 : decode cX11_layer 53 = .ok (.iaload, 1) := by decide +kernel
theorem dX11_layer_54 : decode cX11_layer 54 = .ok (.ireturn, 1) := by decide +kernel
theorem dX11_starves_0 : decode cX11_starves 0 = .ok (.aload_n 0, 1) := by decide +kernel
theorem dX11_starves_1 : decode cX11_starves 1 = .ok (.iload_n 1, 1) := by decide +kernel
theorem dX11_starves_2 : decode cX11_starves 2 = .ok (.invokevirtual 132, 3) := by decide +kernel
theorem dX11_starves_5 : decode cX11_starves 5 = .ok (.ifCond .eq 10, 3) := by decide +kernel
theorem dX11_starves_8 : decode cX11_starves 8 = .ok (.iload_n 2, 1) := by decide +kernel
theorem dX11_starves_9 : decode cX11_starves 9 = .ok (.invokestatic 213, 3) := by decide +kernel
theorem dX11_starves_12 : decode cX11_starves 12 = .ok (.ifCond .ne 5, 3) := by decide +kernel
theorem dX11_starves_15 : decode cX11_starves 15 = .ok (.iconst (-1), 1) := by decide +kernel
theorem dX11_starves_16 : decode cX11_starves 16 = .ok (.ireturn, 1) := by decide +kernel
theorem dX11_starves_17 : decode cX11_starves 17 = .ok (.aload_n 0, 1) := by decide +kernel
theorem dX11_starves_18 : decode cX11_starves 18 = .ok (.getfield 47, 3) := by decide +kernel
theorem dX11_starves_21 : decode cX11_starves 21 = .ok (.iload_n 1, 1) := by decide +kernel
theorem dX11_starves_22 : decode cX11_starves 22 = .ok (.invokevirtual 151, 3) := by decide +kernel
theorem dX11_starves_25 : decode cX11_starves 25 = .ok (.ifCond .eq 5, 3) := by decide +kernel
theorem dX11_starves_28 : decode cX11_starves 28 = .ok (.iconst 0, 1) := by decide +kernel
theorem dX11_starves_29 : decode cX11_starves 29 = .ok (.ireturn, 1) := by decide +kernel
theorem dX11_starves_30 : decode cX11_starves 30 = .ok (.aload_n 0, 1) := by decide +kernel
theorem dX11_starves_31 : decode cX11_starves 31 = .ok (.invokevirtual 236, 3) := by decide +kernel
theorem dX11_starves_34 : decode cX11_starves 34 = .ok (.aload_n 0, 1) := by decide +kernel
theorem dX11_starves_35 : decode cX11_starves 35 = .ok (.iload_n 1, 1) := by decide +kernel
theorem dX11_starves_36 : decode cX11_starves 36 = .ok (.iload_n 2, 1) := by decide +kernel
theorem dX11_starves_37 : decode cX11_starves 37 = .ok (.invokevirtual 239, 3) := by decide +kernel
theorem dX11_starves_40 : decode cX11_starves 40 = .ok (.ireturn, 1) := by decide +kernel
theorem dX11_purpose_0 : decode cX11_purpose 0 = .ok (.aload_n 0, 1) := by decide +kernel
theorem dX11_purpose_1 : decode cX11_purpose 1 = .ok (.iload_n 1, 1) := by decide +kernel
theorem dX11_purpose_2 : decode cX11_purpose 2 = .ok (.invokevirtual 132, 3) := by decide +kernel
theorem dX11_purpose_5 : decode cX11_purpose 5 = .ok (.ifCond .eq 18, 3) := by decide +kernel
theorem dX11_purpose_8 : decode cX11_purpose 8 = .ok (.aload_n 0, 1) := by decide +kernel
theorem dX11_purpose_9 : decode cX11_purpose 9 = .ok (.iload_n 2, 1) := by decide +kernel
theorem dX11_purpose_10 : decode cX11_purpose 10 = .ok (.invokevirtual 118, 3) := by decide +kernel
theorem dX11_purpose_13 : decode cX11_purpose 13 = .ok (.ifCond .eq 10, 3) := by decide +kernel
theorem dX11_purpose_16 : decode cX11_purpose 16 = .ok (.iload_n 3, 1) := by decide +kernel
theorem dX11_purpose_17 : decode cX11_purpose 17 = .ok (.invokestatic 213, 3) := by decide +kernel
theorem dX11_purpose_20 : decode cX11_purpose 20 = .ok (.ifCond .ne 5, 3) := by decide +kernel
theorem dX11_purpose_23 : decode cX11_purpose 23 = .ok (.iconst (-1), 1) := by decide +kernel
theorem dX11_purpose_24 : decode cX11_purpose 24 = .ok (.ireturn, 1) := by decide +kernel
theorem dX11_purpose_25 : decode cX11_purpose 25 = .ok (.iconst 0, 1) := by decide +kernel
theorem dX11_purpose_26 : decode cX11_purpose 26 = .ok (.istore 4, 2) := by decide +kernel
theorem dX11_purpose_28 : decode cX11_purpose 28 = .ok (.iload 4, 2) := by decide +kernel
theorem dX11_purpose_30 : decode cX11_purpose 30 = .ok (.bipush 99, 2) := by decide +kernel
theorem dX11_purpose_32 : decode cX11_purpose 32 = .ok (.if_icmp .gt 44, 3) := by decide +kernel
theorem dX11_purpose_35 : decode cX11_purpose 35 = .ok (.aload_n 0, 1) := by decide +kernel
theorem dX11_purpose_36 : decode cX11_purpose 36 = .ok (.invokevirtual 236, 3) := by decide +kernel
theorem dX11_purpose_39 : decode cX11_purpose 39 = .ok (.aload_n 0, 1) := by decide +kernel
theorem dX11_purpose_40 : decode cX11_purpose 40 = .ok (.getfield 51, 3) := by decide +kernel
theorem dX11_purpose_43 : decode cX11_purpose 43 = .ok (.getfield 223, 3) := by decide +kernel
theorem dX11_purpose_46 : decode cX11_purpose 46 = .ok (.iload_n 1, 1) := by decide +kernel
theorem dX11_purpose_47 : decode cX11_purpose 47 = .ok (.iload_n 2, 1) := by decide +kernel
theorem dX11_purpose_48 : decode cX11_purpose 48 = .ok (.invokestatic 157, 3) := by decide +kernel
theorem dX11_purpose_51 : decode cX11_purpose 51 = .ok (.dup2, 1) := by decide +kernel
theorem dX11_purpose_52 : decode cX11_purpose 52 = .ok (.iaload, 1) := by decide +kernel
theorem dX11_purpose_53 : decode cX11_purpose 53 = .ok (.iload 4, 2) := by decide +kernel
theorem dX11_purpose_55 : decode cX11_purpose 55 = .ok (.iadd, 1) := by decide +kernel
theorem dX11_purpose_56 : decode cX11_purpose 56 = .ok (.iastore, 1) := by decide +kernel
theorem dX11_purpose_57 : decode cX11_purpose 57 = .ok (.aload_n 0, 1) := by decide +kernel
theorem dX11_purpose_58 : decode cX11_purpose 58 = .ok (.iload_n 1, 1) := by decide +kernel
theorem dX11_purpose_59 : decode cX11_purpose 59 = .ok (.iload_n 3, 1) := by decide +kernel
theorem dX11_purpose_60 : decode cX11_purpose 60 = .ok (.invokevirtual 239, 3) := by decide +kernel
theorem dX11_purpose_63 : decode cX11_purpose 63 = .ok (.iconst (-1), 1) := by decide +kernel
theorem dX11_purpose_64 : decode cX11_purpose 64 = .ok (.if_icmp .ne 6, 3) := by decide +kernel
theorem dX11_purpose_67 : decode cX11_purpose 67 = .ok (.iload 4, 2) := by decide +kernel
theorem dX11_purpose_69 : decode cX11_purpose 69 = .ok (.ireturn, 1) := by decide +kernel
theorem dX11_purpose_70 : decode cX11_purpose 70 = .ok (.iinc 4 1, 3) := by decide +kernel
theorem dX11_purpose_73 : decode cX11_purpose 73 = .ok (.goto (-45), 3) := by decide +kernel
theorem dX11_purpose_76 : decode cX11_purpose 76 = .ok (.iconst (-1), 1) := by decide +kernel
theorem dX11_purpose_77 : decode cX11_purpose 77 = .ok (.ireturn, 1) := by decide +kernel
theorem dX11_table_0 : decode cX11_table 0 = .ok (.iload_n 2, 1) := by decide +kernel
theorem dX11_table_1 : decode cX11_table 1 = .ok (.invokestatic 213, 3) := by decide +kernel
theorem dX11_table_4 : decode cX11_table 4 = .ok (.ifCond .eq 19, 3) := by decide +kernel
theorem dX11_table_7 : decode cX11_table 7 = .ok (.iload_n 1, 1) := by decide +kernel
theorem dX11_table_8 : decode cX11_table 8 = .ok (.iconst (-1), 1) := by decide +kernel
theorem dX11_table_9 : decode cX11_table 9 = .ok (.if_icmp .lt 14, 3) := by decide +kernel
theorem dX11_table_12 : decode cX11_table 12 = .ok (.iload_n 1, 1) := by decide +kernel
theorem dX11_table_13 : decode cX11_table 13 = .ok (.aload_n 0, 1) := by decide +kernel
theorem dX11_table_14 : decode cX11_table 14 = .ok (.getfield 39, 3) := by decide +kernel
theorem dX11_table_17 : decode cX11_table 17 = .ok (.getfield 242, 3) := by decide +kernel
theorem dX11_table_20 : decode cX11_table 20 = .ok (.if_icmp .lt 5, 3) := by decide +kernel
theorem dX11_table_23 : decode cX11_table 23 = .ok (.iconst (-1), 1) := by decide +kernel
theorem dX11_table_24 : decode cX11_table 24 = .ok (.ireturn, 1) := by decide +kernel
theorem dX11_table_25 : decode cX11_table 25 = .ok (.iload_n 1, 1) := by decide +kernel
theorem dX11_table_26 : decode cX11_table 26 = .ok (.iconst (-1), 1) := by decide +kernel
theorem dX11_table_27 : decode cX11_table 27 = .ok (.if_icmp .eq 10, 3) := by decide +kernel
theorem dX11_table_30 : decode cX11_table 30 = .ok (.aload_n 0, 1) := by decide +kernel
theorem dX11_table_31 : decode cX11_table 31 = .ok (.iload_n 1, 1) := by decide +kernel
theorem dX11_table_32 : decode cX11_table 32 = .ok (.iload_n 2, 1) := by decide +kernel
theorem dX11_table_33 : decode cX11_table 33 = .ok (.invokevirtual 245, 3) := by decide +kernel
theorem dX11_table_36 : decode cX11_table 36 = .ok (.ireturn, 1) := by decide +kernel
theorem dX11_table_37 : decode cX11_table 37 = .ok (.iconst (-1), 1) := by decide +kernel
theorem dX11_table_38 : decode cX11_table 38 = .ok (.istore_n 3, 1) := by decide +kernel
theorem dX11_table_39 : decode cX11_table 39 = .ok (.iconst 0, 1) := by decide +kernel
theorem dX11_table_40 : decode cX11_table 40 = .ok (.istore 4, 2) := by decide +kernel
theorem dX11_table_42 : decode cX11_table 42 = .ok (.iconst 0, 1) := by decide +kernel
theorem dX11_table_43 : decode cX11_table 43 = .ok (.istore 5, 2) := by decide +kernel
theorem dX11_table_45 : decode cX11_table 45 = .ok (.iload 5, 2) := by decide +kernel
theorem dX11_table_47 : decode cX11_table 47 = .ok (.aload_n 0, 1) := by decide +kernel
theorem dX11_table_48 : decode cX11_table 48 = .ok (.getfield 39, 3) := by decide +kernel
theorem dX11_table_51 : decode cX11_table 51 = .ok (.getfield 242, 3) := by decide +kernel
theorem dX11_table_54 : decode cX11_table 54 = .ok (.if_icmp .ge 37, 3) := by decide +kernel
theorem dX11_table_57 : decode cX11_table 57 = .ok (.aload_n 0, 1) := by decide +kernel
theorem dX11_table_58 : decode cX11_table 58 = .ok (.iload 5, 2) := by decide +kernel
theorem dX11_table_60 : decode cX11_table 60 = .ok (.iload_n 2, 1) := by decide +kernel
theorem dX11_table_61 : decode cX11_table 61 = .ok (.invokevirtual 245, 3) := by decide +kernel
theorem dX11_table_64 : decode cX11_table 64 = .ok (.istore 6, 2) := by decide +kernel
theorem dX11_table_66 : decode cX11_table 66 = .ok (.iload_n 3, 1) := by decide +kernel
theorem dX11_table_67 : decode cX11_table 67 = .ok (.iconst (-1), 1) := by decide +kernel
theorem dX11_table_68 : decode cX11_table 68 = .ok (.if_icmp .eq 10, 3) := by decide +kernel
theorem dX11_table_71 : decode cX11_table 71 = .ok (.iload 6, 2) := by decide +kernel
theorem dX11_table_73 : decode cX11_table 73 = .ok (.iload 4, 2) := by decide +kernel
theorem dX11_table_75 : decode cX11_table 75 = .ok (.if_icmp .ge 10, 3) := by decide +kernel
theorem dX11_table_78 : decode cX11_table 78 = .ok (.iload 5, 2) := by decide +kernel
theorem dX11_table_80 : decode cX11_table 80 = .ok (.istore_n 3, 1) := by decide +kernel
theorem dX11_table_81 : decode cX11_table 81 = .ok (.iload 6, 2) := by decide +kernel
theorem dX11_table_83 : decode cX11_table 83 = .ok (.istore 4, 2) := by decide +kernel
theorem dX11_table_85 : decode cX11_table 85 = .ok (.iinc 5 1, 3) := by decide +kernel
theorem dX11_table_88 : decode cX11_table 88 = .ok (.goto (-43), 3) := by decide +kernel
theorem dX11_table_91 : decode cX11_table 91 = .ok (.iload_n 3, 1) := by decide +kernel
theorem dX11_table_92 : decode cX11_table 92 = .ok (.ireturn, 1) := by decide +kernel
theorem dX11_newcomer_0 : decode cX11_newcomer 0 = .ok (.aload_n 0, 1) := by decide +kernel
theorem dX11_newcomer_1 : decode cX11_newcomer 1 = .ok (.iload_n 1, 1) := by decide +kernel
theorem dX11_newcomer_2 : decode cX11_newcomer 2 = .ok (.invokevirtual 248, 3) := by decide +kernel
theorem dX11_newcomer_5 : decode cX11_newcomer 5 = .ok (.ifCond .eq 57, 3) := by decide +kernel
theorem dX11_newcomer_8 : decode cX11_newcomer 8 = .ok (.aload_n 0, 1) := by decide +kernel
theorem dX11_newcomer_9 : decode cX11_newcomer 9 = .ok (.iload_n 2, 1) := by decide +kernel
theorem dX11_newcomer_10 : decode cX11_newcomer 10 = .ok (.invokevirtual 248, 3) := by decide +kernel
theorem dX11_newcomer_13 : decode cX11_newcomer 13 = .ok (.ifCond .eq 49, 3) := by decide +kernel
theorem dX11_newcomer_16 : decode cX11_newcomer 16 = .ok (.iload_n 1, 1) := by decide +kernel
theorem dX11_newcomer_17 : decode cX11_newcomer 17 = .ok (.iload_n 2, 1) := by decide +kernel
theorem dX11_newcomer_18 : decode cX11_newcomer 18 = .ok (.if_icmp .eq 44, 3) := by decide +kernel
theorem dX11_newcomer_21 : decode cX11_newcomer 21 = .ok (.aload_n 0, 1) := by decide +kernel
theorem dX11_newcomer_22 : decode cX11_newcomer 22 = .ok (.iload_n 3, 1) := by decide +kernel
theorem dX11_newcomer_23 : decode cX11_newcomer 23 = .ok (.invokevirtual 118, 3) := by decide +kernel
theorem dX11_newcomer_26 : decode cX11_newcomer 26 = .ok (.ifCond .eq 36, 3) := by decide +kernel
theorem dX11_newcomer_29 : decode cX11_newcomer 29 = .ok (.iload 4, 2) := by decide +kernel
theorem dX11_newcomer_31 : decode cX11_newcomer 31 = .ok (.iconst 1, 1) := by decide +kernel
theorem dX11_newcomer_32 : decode cX11_newcomer 32 = .ok (.if_icmp .lt 30, 3) := by decide +kernel
theorem dX11_newcomer_35 : decode cX11_newcomer 35 = .ok (.iload 4, 2) := by decide +kernel
theorem dX11_newcomer_37 : decode cX11_newcomer 37 = .ok (.sipush 999, 3) := by decide +kernel
theorem dX11_newcomer_40 : decode cX11_newcomer 40 = .ok (.if_icmp .gt 22, 3) := by decide +kernel
theorem dX11_newcomer_43 : decode cX11_newcomer 43 = .ok (.aload_n 0, 1) := by decide +kernel
theorem dX11_newcomer_44 : decode cX11_newcomer 44 = .ok (.getfield 39, 3) := by decide +kernel
theorem dX11_newcomer_47 : decode cX11_newcomer 47 = .ok (.getfield 164, 3) := by decide +kernel
theorem dX11_newcomer_50 : decode cX11_newcomer 50 = .ok (.getfield 251, 3) := by decide +kernel
theorem dX11_newcomer_53 : decode cX11_newcomer 53 = .ok (.bipush 6, 2) := by decide +kernel
theorem dX11_newcomer_55 : decode cX11_newcomer 55 = .ok (.if_icmp .ge 7, 3) := by decide +kernel
theorem dX11_newcomer_58 : decode cX11_newcomer 58 = .ok (.iconst 1, 1) := by decide +kernel
theorem dX11_newcomer_59 : decode cX11_newcomer 59 = .ok (.goto 4, 3) := by decide +kernel
theorem dX11_newcomer_62 : decode cX11_newcomer 62 = .ok (.iconst 0, 1) := by decide +kernel
theorem dX11_newcomer_63 : decode cX11_newcomer 63 = .ok (.istore 7, 2) := by decide +kernel
theorem dX11_newcomer_65 : decode cX11_newcomer 65 = .ok (.iload 7, 2) := by decide +kernel
theorem dX11_newcomer_67 : decode cX11_newcomer 67 = .ok (.ifCond .eq 22, 3) := by decide +kernel
theorem dX11_newcomer_70 : decode cX11_newcomer 70 = .ok (.iload 5, 2) := by decide +kernel
theorem dX11_newcomer_72 : decode cX11_newcomer 72 = .ok (.invokestatic 213, 3) := by decide +kernel
theorem dX11_newcomer_75 : decode cX11_newcomer 75 = .ok (.ifCond .eq 14, 3) := by decide +kernel
theorem dX11_newcomer_78 : decode cX11_newcomer 78 = .ok (.iload 6, 2) := by decide +kernel
theorem dX11_newcomer_80 : decode cX11_newcomer 80 = .ok (.ifCond .lt 9, 3) := by decide +kernel
theorem dX11_newcomer_83 : decode cX11_newcomer 83 = .ok (.iload 6, 2) := by decide +kernel
theorem dX11_newcomer_85 : decode cX11_newcomer 85 = .ok (.iconst 1, 1) := by decide +kernel
theorem dX11_newcomer_86 : decode cX11_newcomer 86 = .ok (.if_icmp .le 13, 3) := by decide +kernel
theorem dX11_newcomer_89 : decode cX11_newcomer 89 = .ok (.new 194, 3) := by decide +kernel
theorem dX11_newcomer_92 : decode cX11_newcomer 92 = .ok (.dup, 1) := by decide +kernel
theorem dX11_newcomer_93 : decode cX11_newcomer 93 = .ok (.ldc 252, 2) := by decide +kernel
theorem dX11_newcomer_95 : decode cX11_newcomer 95 = .ok (.invokespecial 198, 3) := by decide +kernel
theorem dX11_newcomer_98 : decode cX11_newcomer 98 = .ok (.athrow, 1) := by decide +kernel
theorem dX11_newcomer_99 : decode cX11_newcomer 99 = .ok (.iload 6, 2) := by decide +kernel
theorem dX11_newcomer_101 : decode cX11_newcomer 101 = .ok (.ifCond .ne 12, 3) := by decide +kernel
theorem dX11_newcomer_104 : decode cX11_newcomer 104 = .ok (.aload_n 0, 1) := by decide +kernel
theorem dX11_newcomer_105 : decode cX11_newcomer 105 = .ok (.iload 5, 2) := by decide +kernel
theorem dX11_newcomer_107 : decode cX11_newcomer 107 = .ok (.invokevirtual 254, 3) := by decide +kernel
theorem dX11_newcomer_110 : decode cX11_newcomer 110 = .ok (.goto 4, 3) := by decide +kernel
theorem dX11_newcomer_113 : decode cX11_newcomer 113 = .ok (.iconst 0, 1) := by decide +kernel
theorem dX11_newcomer_114 : decode cX11_newcomer 114 = .ok (.istore 8, 2) := by decide +kernel
theorem dX11_newcomer_116 : decode cX11_newcomer 116 = .ok (.aload_n 0, 1) := by decide +kernel
theorem dX11_newcomer_117 : decode cX11_newcomer 117 = .ok (.invokevirtual 236, 3) := by decide +kernel
theorem dX11_newcomer_120 : decode cX11_newcomer 120 = .ok (.aload_n 0, 1) := by decide +kernel
theorem dX11_newcomer_121 : decode cX11_newcomer 121 = .ok (.getfield 57, 3) := by decide +kernel
theorem dX11_newcomer_124 : decode cX11_newcomer 124 = .ok (.iload_n 1, 1) := by decide +kernel
theorem dX11_newcomer_125 : decode cX11_newcomer 125 = .ok (.iload_n 2, 1) := by decide +kernel
theorem dX11_newcomer_126 : decode cX11_newcomer 126 = .ok (.iload_n 3, 1) := by decide +kernel
theorem dX11_newcomer_127 : decode cX11_newcomer 127 = .ok (.iload 4, 2) := by decide +kernel
theorem dX11_newcomer_129 : decode cX11_newcomer 129 = .ok (.invokevirtual 258, 3) := by decide +kernel
theorem dX11_newcomer_132 : decode cX11_newcomer 132 = .ok (.aload_n 0, 1) := by decide +kernel
theorem dX11_newcomer_133 : decode cX11_newcomer 133 = .ok (.iload 5, 2) := by decide +kernel
theorem dX11_newcomer_135 : decode cX11_newcomer 135 = .ok (.iconst (-1), 1) := by decide +kernel
theorem dX11_newcomer_136 : decode cX11_newcomer 136 = .ok (.invokevirtual 262, 3) := by decide +kernel
theorem dX11_newcomer_139 : decode cX11_newcomer 139 = .ok (.iload 6, 2) := by decide +kernel
theorem dX11_newcomer_141 : decode cX11_newcomer 141 = .ok (.ifCond .ne 17, 3) := by decide +kernel
theorem dX11_newcomer_144 : decode cX11_newcomer 144 = .ok (.aload_n 0, 1) := by decide +kernel
theorem dX11_newcomer_145 : decode cX11_newcomer 145 = .ok (.aload_n 0, 1) := by decide +kernel
theorem dX11_newcomer_146 : decode cX11_newcomer 146 = .ok (.getfield 51, 3) := by decide +kernel
theorem dX11_newcomer_149 : decode cX11_newcomer 149 = .ok (.invokevirtual 266, 3) := by decide +kernel
theorem dX11_newcomer_152 : decode cX11_newcomer 152 = .ok (.iload 8, 2) := by decide +kernel
theorem dX11_newcomer_154 : decode cX11_newcomer 154 = .ok (.isub, 1) := by decide +kernel
theorem dX11_newcomer_155 : decode cX11_newcomer 155 = .ok (.goto 21, 3) := by decide +kernel
theorem dX11_newcomer_158 : decode cX11_newcomer 158 = .ok (.aload_n 0, 1) := by decide +kernel
theorem dX11_newcomer_159 : decode cX11_newcomer 159 = .ok (.getfield 51, 3) := by decide +kernel
theorem dX11_newcomer_162 : decode cX11_newcomer 162 = .ok (.getfield 182, 3) := by decide +kernel
theorem dX11_newcomer_165 : decode cX11_newcomer 165 = .ok (.aload_n 0, 1) := by decide +kernel
theorem dX11_newcomer_166 : decode cX11_newcomer 166 = .ok (.getfield 39, 3) := by decide +kernel
theorem dX11_newcomer_169 : decode cX11_newcomer 169 = .ok (.getfield 164, 3) := by decide +kernel
theorem dX11_newcomer_172 : decode cX11_newcomer 172 = .ok (.getfield 251, 3) := by decide +kernel
theorem dX11_newcomer_175 : decode cX11_newcomer 175 = .ok (.iaload, 1) := by decide +kernel
theorem dX11_newcomer_176 : decode cX11_newcomer 176 = .ok (.ireturn, 1) := by decide +kernel
theorem dX11_swept_0 : decode cX11_swept 0 = .ok (.aload_n 0, 1) := by decide +kernel
theorem dX11_swept_1 : decode cX11_swept 1 = .ok (.iload_n 1, 1) := by decide +kernel
theorem dX11_swept_2 : decode cX11_swept 2 = .ok (.invokevirtual 132, 3) := by decide +kernel
theorem dX11_swept_5 : decode cX11_swept 5 = .ok (.ifCond .eq 10, 3) := by decide +kernel
theorem dX11_swept_8 : decode cX11_swept 8 = .ok (.iload_n 2, 1) := by decide +kernel
theorem dX11_swept_9 : decode cX11_swept 9 = .ok (.invokestatic 213, 3) := by decide +kernel
theorem dX11_swept_12 : decode cX11_swept 12 = .ok (.ifCond .ne 14, 3) := by decide +kernel
theorem dX11_swept_15 : decode cX11_swept 15 = .ok (.new 194, 3) := by decide +kernel
theorem dX11_swept_18 : decode cX11_swept 18 = .ok (.dup, 1) := by decide +kernel
theorem dX11_swept_19 : decode cX11_swept 19 = .ok (.ldc_w 270, 3) := by decide +kernel
theorem dX11_swept_22 : decode cX11_swept 22 = .ok (.invokespecial 198, 3) := by decide +kernel
theorem dX11_swept_25 : decode cX11_swept 25 = .ok (.athrow, 1) := by decide +kernel
theorem dX11_swept_26 : decode cX11_swept 26 = .ok (.aload_n 0, 1) := by decide +kernel
theorem dX11_swept_27 : decode cX11_swept 27 = .ok (.iload_n 2, 1) := by decide +kernel
theorem dX11_swept_28 : decode cX11_swept 28 = .ok (.invokevirtual 254, 3) := by decide +kernel
theorem dX11_swept_31 : decode cX11_swept 31 = .ok (.istore_n 3, 1) := by decide +kernel
theorem dX11_swept_32 : decode cX11_swept 32 = .ok (.aload_n 0, 1) := by decide +kernel
theorem dX11_swept_33 : decode cX11_swept 33 = .ok (.invokevirtual 236, 3) := by decide +kernel
theorem dX11_swept_36 : decode cX11_swept 36 = .ok (.aload_n 0, 1) := by decide +kernel
theorem dX11_swept_37 : decode cX11_swept 37 = .ok (.iload_n 2, 1) := by decide +kernel
theorem dX11_swept_38 : decode cX11_swept 38 = .ok (.iload_n 1, 1) := by decide +kernel
theorem dX11_swept_39 : decode cX11_swept 39 = .ok (.invokevirtual 262, 3) := by decide +kernel
theorem dX11_swept_42 : decode cX11_swept 42 = .ok (.aload_n 0, 1) := by decide +kernel
theorem dX11_swept_43 : decode cX11_swept 43 = .ok (.aload_n 0, 1) := by decide +kernel
theorem dX11_swept_44 : decode cX11_swept 44 = .ok (.getfield 51, 3) := by decide +kernel
theorem dX11_swept_47 : decode cX11_swept 47 = .ok (.invokevirtual 266, 3) := by decide +kernel
theorem dX11_swept_50 : decode cX11_swept 50 = .ok (.iload_n 3, 1) := by decide +kernel
theorem dX11_swept_51 : decode cX11_swept 51 = .ok (.isub, 1) := by decide +kernel
theorem dX11_swept_52 : decode cX11_swept 52 = .ok (.ireturn, 1) := by decide +kernel
theorem dX11_told_0 : decode cX11_told 0 = .ok (.aload_n 0, 1) := by decide +kernel
theorem dX11_told_1 : decode cX11_told 1 = .ok (.iload_n 1, 1) := by decide +kernel
theorem dX11_told_2 : decode cX11_told 2 = .ok (.invokevirtual 118, 3) := by decide +kernel
theorem dX11_told_5 : decode cX11_told 5 = .ok (.ifCond .eq 14, 3) := by decide +kernel
theorem dX11_told_8 : decode cX11_told 8 = .ok (.iload_n 2, 1) := by decide +kernel
theorem dX11_told_9 : decode cX11_told 9 = .ok (.ifCond .lt 10, 3) := by decide +kernel
theorem dX11_told_12 : decode cX11_told 12 = .ok (.iload_n 2, 1) := by decide +kernel
theorem dX11_told_13 : decode cX11_told 13 = .ok (.sipush 9999, 3) := by decide +kernel
theorem dX11_told_16 : decode cX11_told 16 = .ok (.if_icmp .le 5, 3) := by decide +kernel
theorem dX11_told_19 : decode cX11_told 19 = .ok (.iconst 0, 1) := by decide +kernel
theorem dX11_told_20 : decode cX11_told 20 = .ok (.ireturn, 1) := by decide +kernel
theorem dX11_told_21 : decode cX11_told 21 = .ok (.aload_n 0, 1) := by decide +kernel
theorem dX11_told_22 : decode cX11_told 22 = .ok (.getfield 47, 3) := by decide +kernel
theorem dX11_told_25 : decode cX11_told 25 = .ok (.getfield 272, 3) := by decide +kernel
theorem dX11_told_28 : decode cX11_told 28 = .ok (.iload_n 1, 1) := by decide +kernel
theorem dX11_told_29 : decode cX11_told 29 = .ok (.iload_n 2, 1) := by decide +kernel
theorem dX11_told_30 : decode cX11_told 30 = .ok (.iastore, 1) := by decide +kernel
theorem dX11_told_31 : decode cX11_told 31 = .ok (.iconst 1, 1) := by decide +kernel
theorem dX11_told_32 : decode cX11_told 32 = .ok (.ireturn, 1) := by decide +kernel
theorem dX11_went_0 : decode cX11_went 0 = .ok (.aload_n 0, 1) := by decide +kernel
theorem dX11_went_1 : decode cX11_went 1 = .ok (.iload_n 1, 1) := by decide +kernel
theorem dX11_went_2 : decode cX11_went 2 = .ok (.invokevirtual 132, 3) := by decide +kernel
theorem dX11_went_5 : decode cX11_went 5 = .ok (.ifCond .eq 12, 3) := by decide +kernel
theorem dX11_went_8 : decode cX11_went 8 = .ok (.iload_n 2, 1) := by decide +kernel
theorem dX11_went_9 : decode cX11_went 9 = .ok (.ifCond .lt 8, 3) := by decide +kernel
theorem dX11_went_12 : decode cX11_went 12 = .ok (.iload_n 2, 1) := by decide +kernel
theorem dX11_went_13 : decode cX11_went 13 = .ok (.iconst 2, 1) := by decide +kernel
theorem dX11_went_14 : decode cX11_went 14 = .ok (.if_icmp .le 5, 3) := by decide +kernel
theorem dX11_went_17 : decode cX11_went 17 = .ok (.iconst (-1), 1) := by decide +kernel
theorem dX11_went_18 : decode cX11_went 18 = .ok (.ireturn, 1) := by decide +kernel
theorem dX11_went_19 : decode cX11_went 19 = .ok (.aload_n 0, 1) := by decide +kernel
theorem dX11_went_20 : decode cX11_went 20 = .ok (.getfield 74, 3) := by decide +kernel
theorem dX11_went_23 : decode cX11_went 23 = .ok (.aload_n 0, 1) := by decide +kernel
theorem dX11_went_24 : decode cX11_went 24 = .ok (.getfield 47, 3) := by decide +kernel
theorem dX11_went_27 : decode cX11_went 27 = .ok (.invokevirtual 206, 3) := by decide +kernel
theorem dX11_went_30 : decode cX11_went 30 = .ok (.iconst (-1), 1) := by decide +kernel
theorem dX11_went_31 : decode cX11_went 31 = .ok (.istore_n 3, 1) := by decide +kernel
theorem dX11_went_32 : decode cX11_went 32 = .ok (.iconst 0, 1) := by decide +kernel
theorem dX11_went_33 : decode cX11_went 33 = .ok (.istore 4, 2) := by decide +kernel
theorem dX11_went_35 : decode cX11_went 35 = .ok (.iconst 1, 1) := by decide +kernel
theorem dX11_went_36 : decode cX11_went 36 = .ok (.aload_n 0, 1) := by decide +kernel
theorem dX11_went_37 : decode cX11_went 37 = .ok (.getfield 39, 3) := by decide +kernel
theorem dX11_went_40 : decode cX11_went 40 = .ok (.getfield 164, 3) := by decide +kernel
theorem dX11_went_43 : decode cX11_went 43 = .ok (.getfield 251, 3) := by decide +kernel
theorem dX11_went_46 : decode cX11_went 46 = .ok (.ishl, 1) := by decide +kernel
theorem dX11_went_47 : decode cX11_went 47 = .ok (.iconst 1, 1) := by decide +kernel
theorem dX11_went_48 : decode cX11_went 48 = .ok (.isub, 1) := by decide +kernel
theorem dX11_went_49 : decode cX11_went 49 = .ok (.istore 5, 2) := by decide +kernel
theorem dX11_went_51 : decode cX11_went 51 = .ok (.iconst 0, 1) := by decide +kernel
theorem dX11_went_52 : decode cX11_went 52 = .ok (.istore 6, 2) := by decide +kernel
theorem dX11_went_54 : decode cX11_went 54 = .ok (.iload 6, 2) := by decide +kernel
theorem dX11_went_56 : decode cX11_went 56 = .ok (.iconst 1, 1) := by decide +kernel
theorem dX11_went_57 : decode cX11_went 57 = .ok (.aload_n 0, 1) := by decide +kernel
theorem dX11_went_58 : decode cX11_went 58 = .ok (.getfield 39, 3) := by decide +kernel
theorem dX11_went_61 : decode cX11_went 61 = .ok (.getfield 164, 3) := by decide +kernel
theorem dX11_went_64 : decode cX11_went 64 = .ok (.getfield 251, 3) := by decide +kernel
theorem dX11_went_67 : decode cX11_went 67 = .ok (.ishl, 1) := by decide +kernel
theorem dX11_went_68 : decode cX11_went 68 = .ok (.if_icmp .ge 41, 3) := by decide +kernel
theorem dX11_went_71 : decode cX11_went 71 = .ok (.aload_n 0, 1) := by decide +kernel
theorem dX11_went_72 : decode cX11_went 72 = .ok (.iload_n 1, 1) := by decide +kernel
theorem dX11_went_73 : decode cX11_went 73 = .ok (.iload 6, 2) := by decide +kernel
theorem dX11_went_75 : decode cX11_went 75 = .ok (.invokevirtual 275, 3) := by decide +kernel
theorem dX11_went_78 : decode cX11_went 78 = .ok (.ifCond .eq 25, 3) := by decide +kernel
theorem dX11_went_81 : decode cX11_went 81 = .ok (.iload 4, 2) := by decide +kernel
theorem dX11_went_83 : decode cX11_went 83 = .ok (.ifCond .ne 8, 3) := by decide +kernel
theorem dX11_went_86 : decode cX11_went 86 = .ok (.iload 6, 2) := by decide +kernel
theorem dX11_went_88 : decode cX11_went 88 = .ok (.goto 4, 3) := by decide +kernel
theorem dX11_went_91 : decode cX11_went 91 = .ok (.iload_n 3, 1) := by decide +kernel
theorem dX11_went_92 : decode cX11_went 92 = .ok (.istore_n 3, 1) := by decide +kernel
theorem dX11_went_93 : decode cX11_went 93 = .ok (.iinc 4 1, 3) := by decide +kernel
theorem dX11_went_96 : decode cX11_went 96 = .ok (.iload 5, 2) := by decide +kernel
theorem dX11_went_98 : decode cX11_went 98 = .ok (.iload 6, 2) := by decide +kernel
theorem dX11_went_100 : decode cX11_went 100 = .ok (.iand, 1) := by decide +kernel
theorem dX11_went_101 : decode cX11_went 101 = .ok (.istore 5, 2) := by decide +kernel
theorem dX11_went_103 : decode cX11_went 103 = .ok (.iinc 6 1, 3) := by decide +kernel
theorem dX11_went_106 : decode cX11_went 106 = .ok (.goto (-52), 3) := by decide +kernel
theorem dX11_went_109 : decode cX11_went 109 = .ok (.iload 4, 2) := by decide +kernel
theorem dX11_went_111 : decode cX11_went 111 = .ok (.ifCond .ne 5, 3) := by decide +kernel
theorem dX11_went_114 : decode cX11_went 114 = .ok (.iconst (-1), 1) := by decide +kernel
theorem dX11_went_115 : decode cX11_went 115 = .ok (.ireturn, 1) := by decide +kernel
theorem dX11_went_116 : decode cX11_went 116 = .ok (.iload_n 2, 1) := by decide +kernel
theorem dX11_went_117 : decode cX11_went 117 = .ok (.ifCond .ne 7, 3) := by decide +kernel
theorem dX11_went_120 : decode cX11_went 120 = .ok (.iload_n 3, 1) := by decide +kernel
theorem dX11_went_121 : decode cX11_went 121 = .ok (.goto 15, 3) := by decide +kernel
theorem dX11_went_124 : decode cX11_went 124 = .ok (.iload_n 2, 1) := by decide +kernel
theorem dX11_went_125 : decode cX11_went 125 = .ok (.iconst 1, 1) := by decide +kernel
theorem dX11_went_126 : decode cX11_went 126 = .ok (.if_icmp .ne 8, 3) := by decide +kernel
theorem dX11_went_129 : decode cX11_went 129 = .ok (.iload 4, 2) := by decide +kernel
theorem dX11_went_131 : decode cX11_went 131 = .ok (.goto 5, 3) := by decide +kernel
theorem dX11_went_134 : decode cX11_went 134 = .ok (.iload 5, 2) := by decide +kernel
theorem dX11_went_136 : decode cX11_went 136 = .ok (.ireturn, 1) := by decide +kernel
theorem dX11_wars_0 : decode cX11_wars 0 = .ok (.iload_n 1, 1) := by decide +kernel
theorem dX11_wars_1 : decode cX11_wars 1 = .ok (.ifCond .lt 32, 3) := by decide +kernel
theorem dX11_wars_4 : decode cX11_wars 4 = .ok (.iload_n 1, 1) := by decide +kernel
theorem dX11_wars_5 : decode cX11_wars 5 = .ok (.sipush 9999, 3) := by decide +kernel
theorem dX11_wars_8 : decode cX11_wars 8 = .ok (.if_icmp .gt 25, 3) := by decide +kernel
theorem dX11_wars_11 : decode cX11_wars 11 = .ok (.iload_n 2, 1) := by decide +kernel
theorem dX11_wars_12 : decode cX11_wars 12 = .ok (.iconst 1, 1) := by decide +kernel
theorem dX11_wars_13 : decode cX11_wars 13 = .ok (.if_icmp .lt 20, 3) := by decide +kernel
theorem dX11_wars_16 : decode cX11_wars 16 = .ok (.iload_n 2, 1) := by decide +kernel
theorem dX11_wars_17 : decode cX11_wars 17 = .ok (.bipush 20, 2) := by decide +kernel
theorem dX11_wars_19 : decode cX11_wars 19 = .ok (.if_icmp .gt 14, 3) := by decide +kernel
theorem dX11_wars_22 : decode cX11_wars 22 = .ok (.iload_n 3, 1) := by decide +kernel
theorem dX11_wars_23 : decode cX11_wars 23 = .ok (.invokestatic 213, 3) := by decide +kernel
theorem dX11_wars_26 : decode cX11_wars 26 = .ok (.ifCond .eq 7, 3) := by decide +kernel
theorem dX11_wars_29 : decode cX11_wars 29 = .ok (.iconst 1, 1) := by decide +kernel
theorem dX11_wars_30 : decode cX11_wars 30 = .ok (.goto 4, 3) := by decide +kernel
theorem dX11_wars_33 : decode cX11_wars 33 = .ok (.iconst 0, 1) := by decide +kernel
theorem dX11_wars_34 : decode cX11_wars 34 = .ok (.istore 5, 2) := by decide +kernel
theorem dX11_wars_36 : decode cX11_wars 36 = .ok (.iload 5, 2) := by decide +kernel
theorem dX11_wars_38 : decode cX11_wars 38 = .ok (.ifCond .eq 24, 3) := by decide +kernel
theorem dX11_wars_41 : decode cX11_wars 41 = .ok (.iload 4, 2) := by decide +kernel
theorem dX11_wars_43 : decode cX11_wars 43 = .ok (.ifCond .lt 19, 3) := by decide +kernel
theorem dX11_wars_46 : decode cX11_wars 46 = .ok (.iload 4, 2) := by decide +kernel
theorem dX11_wars_48 : decode cX11_wars 48 = .ok (.iconst 1, 1) := by decide +kernel
theorem dX11_wars_49 : decode cX11_wars 49 = .ok (.if_icmp .gt 13, 3) := by decide +kernel
theorem dX11_wars_52 : decode cX11_wars 52 = .ok (.aload_n 0, 1) := by decide +kernel
theorem dX11_wars_53 : decode cX11_wars 53 = .ok (.getfield 39, 3) := by decide +kernel
theorem dX11_wars_56 : decode cX11_wars 56 = .ok (.getfield 279, 3) := by decide +kernel
theorem dX11_wars_59 : decode cX11_wars 59 = .ok (.ifCond .ne 5, 3) := by decide +kernel
theorem dX11_wars_62 : decode cX11_wars 62 = .ok (.iconst (-1), 1) := by decide +kernel
theorem dX11_wars_63 : decode cX11_wars 63 = .ok (.ireturn, 1) := by decide +kernel
theorem dX11_wars_64 : decode cX11_wars 64 = .ok (.aload_n 0, 1) := by decide +kernel
theorem dX11_wars_65 : decode cX11_wars 65 = .ok (.iload_n 1, 1) := by decide +kernel
theorem dX11_wars_66 : decode cX11_wars 66 = .ok (.i2l, 1) := by decide +kernel
theorem dX11_wars_67 : decode cX11_wars 67 = .ok (.putfield 282, 3) := by decide +kernel
theorem dX11_wars_70 : decode cX11_wars 70 = .ok (.iconst 0, 1) := by decide +kernel
theorem dX11_wars_71 : decode cX11_wars 71 = .ok (.istore 6, 2) := by decide +kernel
theorem dX11_wars_73 : decode cX11_wars 73 = .ok (.iconst 0, 1) := by decide +kernel
theorem dX11_wars_74 : decode cX11_wars 74 = .ok (.istore 7, 2) := by decide +kernel
theorem dX11_wars_76 : decode cX11_wars 76 = .ok (.iconst 0, 1) := by decide +kernel
theorem dX11_wars_77 : decode cX11_wars 77 = .ok (.istore 8, 2) := by decide +kernel
theorem dX11_wars_79 : decode cX11_wars 79 = .ok (.iload 8, 2) := by decide +kernel
theorem dX11_wars_81 : decode cX11_wars 81 = .ok (.iload_n 2, 1) := by decide +kernel
theorem dX11_wars_82 : decode cX11_wars 82 = .ok (.if_icmp .ge 44, 3) := by decide +kernel
theorem dX11_wars_85 : decode cX11_wars 85 = .ok (.aload_n 0, 1) := by decide +kernel
theorem dX11_wars_86 : decode cX11_wars 86 = .ok (.invokevirtual 236, 3) := by decide +kernel
theorem dX11_wars_89 : decode cX11_wars 89 = .ok (.iload 7, 2) := by decide +kernel
theorem dX11_wars_91 : decode cX11_wars 91 = .ok (.aload_n 0, 1) := by decide +kernel
theorem dX11_wars_92 : decode cX11_wars 92 = .ok (.iload_n 3, 1) := by decide +kernel
theorem dX11_wars_93 : decode cX11_wars 93 = .ok (.invokevirtual 286, 3) := by decide +kernel
theorem dX11_wars_96 : decode cX11_wars 96 = .ok (.iadd, 1) := by decide +kernel
theorem dX11_wars_97 : decode cX11_wars 97 = .ok (.istore 7, 2) := by decide +kernel
theorem dX11_wars_99 : decode cX11_wars 99 = .ok (.iload 6, 2) := by decide +kernel
theorem dX11_wars_101 : decode cX11_wars 101 = .ok (.aload_n 0, 1) := by decide +kernel
theorem dX11_wars_102 : decode cX11_wars 102 = .ok (.aload_n 0, 1) := by decide +kernel
theorem dX11_wars_103 : decode cX11_wars 103 = .ok (.getfield 51, 3) := by decide +kernel
theorem dX11_wars_106 : decode cX11_wars 106 = .ok (.invokevirtual 289, 3) := by decide +kernel
theorem dX11_wars_109 : decode cX11_wars 109 = .ok (.ifCond .ne 7, 3) := by decide +kernel
theorem dX11_wars_112 : decode cX11_wars 112 = .ok (.iconst 1, 1) := by decide +kernel
theorem dX11_wars_113 : decode cX11_wars 113 = .ok (.goto 4, 3) := by decide +kernel
theorem dX11_wars_116 : decode cX11_wars 116 = .ok (.iconst 0, 1) := by decide +kernel
theorem dX11_wars_117 : decode cX11_wars 117 = .ok (.iadd, 1) := by decide +kernel
theorem dX11_wars_118 : decode cX11_wars 118 = .ok (.istore 6, 2) := by decide +kernel
theorem dX11_wars_120 : decode cX11_wars 120 = .ok (.iinc 8 1, 3) := by decide +kernel
theorem dX11_wars_123 : decode cX11_wars 123 = .ok (.goto (-44), 3) := by decide +kernel
theorem dX11_wars_126 : decode cX11_wars 126 = .ok (.iload 4, 2) := by decide +kernel
theorem dX11_wars_128 : decode cX11_wars 128 = .ok (.ifCond .ne 8, 3) := by decide +kernel
theorem dX11_wars_131 : decode cX11_wars 131 = .ok (.iload 6, 2) := by decide +kernel
theorem dX11_wars_133 : decode cX11_wars 133 = .ok (.goto 5, 3) := by decide +kernel
theorem dX11_wars_136 : decode cX11_wars 136 = .ok (.iload 7, 2) := by decide +kernel
theorem dX11_wars_138 : decode cX11_wars 138 = .ok (.ireturn, 1) := by decide +kernel
theorem dX11_mark_0 : decode cX11_mark 0 = .ok (.iload_n 1, 1) := by decide +kernel
theorem dX11_mark_1 : decode cX11_mark 1 = .ok (.ifCond .lt 21, 3) := by decide +kernel
theorem dX11_mark_4 : decode cX11_mark 4 = .ok (.iload_n 1, 1) := by decide +kernel
theorem dX11_mark_5 : decode cX11_mark 5 = .ok (.iconst 4, 1) := by decide +kernel
theorem dX11_mark_6 : decode cX11_mark 6 = .ok (.if_icmp .ge 16, 3) := by decide +kernel
theorem dX11_mark_9 : decode cX11_mark 9 = .ok (.iload_n 2, 1) := by decide +kernel
theorem dX11_mark_10 : decode cX11_mark 10 = .ok (.ifCond .eq 14, 3) := by decide +kernel
theorem dX11_mark_13 : decode cX11_mark 13 = .ok (.aload_n 0, 1) := by decide +kernel
theorem dX11_mark_14 : decode cX11_mark 14 = .ok (.getfield 65, 3) := by decide +kernel
theorem dX11_mark_17 : decode cX11_mark 17 = .ok (.iload_n 1, 1) := by decide +kernel
theorem dX11_mark_18 : decode cX11_mark 18 = .ok (.baload, 1) := by decide +kernel
theorem dX11_mark_19 : decode cX11_mark 19 = .ok (.ifCond .ne 5, 3) := by decide +kernel
theorem dX11_mark_22 : decode cX11_mark 22 = .ok (.iconst 0, 1) := by decide +kernel
theorem dX11_mark_23 : decode cX11_mark 23 = .ok (.ireturn, 1) := by decide +kernel
theorem dX11_mark_24 : decode cX11_mark 24 = .ok (.aload_n 0, 1) := by decide +kernel
theorem dX11_mark_25 : decode cX11_mark 25 = .ok (.getfield 61, 3) := by decide +kernel
theorem dX11_mark_28 : decode cX11_mark 28 = .ok (.iload_n 1, 1) := by decide +kernel
theorem dX11_mark_29 : decode cX11_mark 29 = .ok (.aaload, 1) := by decide +kernel
theorem dX11_mark_30 : decode cX11_mark 30 = .ok (.ifnonnull 18, 3) := by decide +kernel
theorem dX11_mark_33 : decode cX11_mark 33 = .ok (.aload_n 0, 1) := by decide +kernel
theorem dX11_mark_34 : decode cX11_mark 34 = .ok (.getfield 61, 3) := by decide +kernel
theorem dX11_mark_37 : decode cX11_mark 37 = .ok (.iload_n 1, 1) := by decide +kernel
theorem dX11_mark_38 : decode cX11_mark 38 = .ok (.new 42, 3) := by decide +kernel
theorem dX11_mark_41 : decode cX11_mark 41 = .ok (.dup, 1) := by decide +kernel
theorem dX11_mark_42 : decode cX11_mark 42 = .ok (.bipush 40, 2) := by decide +kernel
theorem dX11_mark_44 : decode cX11_mark 44 = .ok (.invokespecial 44, 3) := by decide +kernel
theorem dX11_mark_47 : decode cX11_mark 47 = .ok (.aastore, 1) := by decide +kernel
theorem dX11_mark_48 : decode cX11_mark 48 = .ok (.iload_n 2, 1) := by decide +kernel
theorem dX11_mark_49 : decode cX11_mark 49 = .ok (.ifCond .eq 19, 3) := by decide +kernel
theorem dX11_mark_52 : decode cX11_mark 52 = .ok (.aload_n 0, 1) := by decide +kernel
theorem dX11_mark_53 : decode cX11_mark 53 = .ok (.getfield 47, 3) := by decide +kernel
theorem dX11_mark_56 : decode cX11_mark 56 = .ok (.aload_n 0, 1) := by decide +kernel
theorem dX11_mark_57 : decode cX11_mark 57 = .ok (.getfield 61, 3) := by decide +kernel
theorem dX11_mark_60 : decode cX11_mark 60 = .ok (.iload_n 1, 1) := by decide +kernel
theorem dX11_mark_61 : decode cX11_mark 61 = .ok (.aaload, 1) := by decide +kernel
theorem dX11_mark_62 : decode cX11_mark 62 = .ok (.invokevirtual 292, 3) := by decide +kernel
theorem dX11_mark_65 : decode cX11_mark 65 = .ok (.goto 23, 3) := by decide +kernel
theorem dX11_mark_68 : decode cX11_mark 68 = .ok (.aload_n 0, 1) := by decide +kernel
theorem dX11_mark_69 : decode cX11_mark 69 = .ok (.getfield 61, 3) := by decide +kernel
theorem dX11_mark_72 : decode cX11_mark 72 = .ok (.iload_n 1, 1) := by decide +kernel
theorem dX11_mark_73 : decode cX11_mark 73 = .ok (.aaload, 1) := by decide +kernel
theorem dX11_mark_74 : decode cX11_mark 74 = .ok (.aload_n 0, 1) := by decide +kernel
theorem dX11_mark_75 : decode cX11_mark 75 = .ok (.getfield 47, 3) := by decide +kernel
theorem dX11_mark_78 : decode cX11_mark 78 = .ok (.invokevirtual 292, 3) := by decide +kernel
theorem dX11_mark_81 : decode cX11_mark 81 = .ok (.aload_n 0, 1) := by decide +kernel
theorem dX11_mark_82 : decode cX11_mark 82 = .ok (.getfield 65, 3) := by decide +kernel
theorem dX11_mark_85 : decode cX11_mark 85 = .ok (.iload_n 1, 1) := by decide +kernel
theorem dX11_mark_86 : decode cX11_mark 86 = .ok (.iconst 1, 1) := by decide +kernel
theorem dX11_mark_87 : decode cX11_mark 87 = .ok (.bastore, 1) := by decide +kernel
theorem dX11_mark_88 : decode cX11_mark 88 = .ok (.iconst 1, 1) := by decide +kernel
theorem dX11_mark_89 : decode cX11_mark 89 = .ok (.ireturn, 1) := by decide +kernel
theorem dX11_count_0 : decode cX11_count 0 = .ok (.iload_n 1, 1) := by decide +kernel
theorem dX11_count_1 : decode cX11_count 1 = .ok (.tableswitch 116 0 7 #[47, 55, 63, 71, 82, 90, 99, 108], 47) := by decide +kernel
theorem dX11_count_48 : decode cX11_count 48 = .ok (.aload_n 0, 1) := by decide +kernel
theorem dX11_count_49 : decode cX11_count 49 = .ok (.getfield 39, 3) := by decide +kernel
theorem dX11_count_52 : decode cX11_count 52 = .ok (.getfield 242, 3) := by decide +kernel
theorem dX11_count_55 : decode cX11_count 55 = .ok (.ireturn, 1) := by decide +kernel
theorem dX11_count_56 : decode cX11_count 56 = .ok (.aload_n 0, 1) := by decide +kernel
theorem dX11_count_57 : decode cX11_count 57 = .ok (.getfield 39, 3) := by decide +kernel
theorem dX11_count_60 : decode cX11_count 60 = .ok (.getfield 295, 3) := by decide +kernel
theorem dX11_count_63 : decode cX11_count 63 = .ok (.ireturn, 1) := by decide +kernel
theorem dX11_count_64 : decode cX11_count 64 = .ok (.aload_n 0, 1) := by decide +kernel
theorem dX11_count_65 : decode cX11_count 65 = .ok (.getfield 39, 3) := by decide +kernel
theorem dX11_count_68 : decode cX11_count 68 = .ok (.getfield 279, 3) := by decide +kernel
theorem dX11_count_71 : decode cX11_count 71 = .ok (.ireturn, 1) := by decide +kernel
theorem dX11_count_72 : decode cX11_count 72 = .ok (.aload_n 0, 1) := by decide +kernel
theorem dX11_count_73 : decode cX11_count 73 = .ok (.getfield 39, 3) := by decide +kernel
theorem dX11_count_76 : decode cX11_count 76 = .ok (.getfield 164, 3) := by decide +kernel
theorem dX11_count_79 : decode cX11_count 79 = .ok (.getfield 251, 3) := by decide +kernel
theorem dX11_count_82 : decode cX11_count 82 = .ok (.ireturn, 1) := by decide +kernel
theorem dX11_count_83 : decode cX11_count 83 = .ok (.aload_n 0, 1) := by decide +kernel
theorem dX11_count_84 : decode cX11_count 84 = .ok (.getfield 47, 3) := by decide +kernel
theorem dX11_count_87 : decode cX11_count 87 = .ok (.getfield 220, 3) := by decide +kernel
theorem dX11_count_90 : decode cX11_count 90 = .ok (.ireturn, 1) := by decide +kernel
theorem dX11_count_91 : decode cX11_count 91 = .ok (.aload_n 0, 1) := by decide +kernel
theorem dX11_count_92 : decode cX11_count 92 = .ok (.aload_n 0, 1) := by decide +kernel
theorem dX11_count_93 : decode cX11_count 93 = .ok (.getfield 47, 3) := by decide +kernel
theorem dX11_count_96 : decode cX11_count 96 = .ok (.invokevirtual 289, 3) := by decide +kernel
theorem dX11_count_99 : decode cX11_count 99 = .ok (.ireturn, 1) := by decide +kernel
theorem dX11_count_100 : decode cX11_count 100 = .ok (.aload_n 0, 1) := by decide +kernel
theorem dX11_count_101 : decode cX11_count 101 = .ok (.aload_n 0, 1) := by decide +kernel
theorem dX11_count_102 : decode cX11_count 102 = .ok (.getfield 47, 3) := by decide +kernel
theorem dX11_count_105 : decode cX11_count 105 = .ok (.invokevirtual 266, 3) := by decide +kernel
theorem dX11_count_108 : decode cX11_count 108 = .ok (.ireturn, 1) := by decide +kernel
theorem dX11_count_109 : decode cX11_count 109 = .ok (.aload_n 0, 1) := by decide +kernel
theorem dX11_count_110 : decode cX11_count 110 = .ok (.getfield 10, 3) := by decide +kernel
theorem dX11_count_113 : decode cX11_count 113 = .ok (.getfield 100, 3) := by decide +kernel
theorem dX11_count_116 : decode cX11_count 116 = .ok (.ireturn, 1) := by decide +kernel
theorem dX11_count_117 : decode cX11_count 117 = .ok (.iconst (-1), 1) := by decide +kernel
theorem dX11_count_118 : decode cX11_count 118 = .ok (.ireturn, 1) := by decide +kernel
theorem dX11_isStuff_0 : decode cX11_isStuff 0 = .ok (.iload_n 1, 1) := by decide +kernel
theorem dX11_isStuff_1 : decode cX11_isStuff 1 = .ok (.ifCond .lt 18, 3) := by decide +kernel
theorem dX11_isStuff_4 : decode cX11_isStuff 4 = .ok (.iload_n 1, 1) := by decide +kernel
theorem dX11_isStuff_5 : decode cX11_isStuff 5 = .ok (.aload_n 0, 1) := by decide +kernel
theorem dX11_isStuff_6 : decode cX11_isStuff 6 = .ok (.getfield 39, 3) := by decide +kernel
theorem dX11_isStuff_9 : decode cX11_isStuff 9 = .ok (.getfield 242, 3) := by decide +kernel
theorem dX11_isStuff_12 : decode cX11_isStuff 12 = .ok (.if_icmp .ge 7, 3) := by decide +kernel
theorem dX11_isStuff_15 : decode cX11_isStuff 15 = .ok (.iconst 1, 1) := by decide +kernel
theorem dX11_isStuff_16 : decode cX11_isStuff 16 = .ok (.goto 4, 3) := by decide +kernel
theorem dX11_isStuff_19 : decode cX11_isStuff 19 = .ok (.iconst 0, 1) := by decide +kernel
theorem dX11_isStuff_20 : decode cX11_isStuff 20 = .ok (.ireturn, 1) := by decide +kernel
theorem dX11_isPlace_0 : decode cX11_isPlace 0 = .ok (.iload_n 1, 1) := by decide +kernel
theorem dX11_isPlace_1 : decode cX11_isPlace 1 = .ok (.ifCond .lt 18, 3) := by decide +kernel
theorem dX11_isPlace_4 : decode cX11_isPlace 4 = .ok (.iload_n 1, 1) := by decide +kernel
theorem dX11_isPlace_5 : decode cX11_isPlace 5 = .ok (.aload_n 0, 1) := by decide +kernel
theorem dX11_isPlace_6 : decode cX11_isPlace 6 = .ok (.getfield 39, 3) := by decide +kernel
theorem dX11_isPlace_9 : decode cX11_isPlace 9 = .ok (.getfield 295, 3) := by decide +kernel
theorem dX11_isPlace_12 : decode cX11_isPlace 12 = .ok (.if_icmp .ge 7, 3) := by decide +kernel
theorem dX11_isPlace_15 : decode cX11_isPlace 15 = .ok (.iconst 1, 1) := by decide +kernel
theorem dX11_isPlace_16 : decode cX11_isPlace 16 = .ok (.goto 4, 3) := by decide +kernel
theorem dX11_isPlace_19 : decode cX11_isPlace 19 = .ok (.iconst 0, 1) := by decide +kernel
theorem dX11_isPlace_20 : decode cX11_isPlace 20 = .ok (.ireturn, 1) := by decide +kernel
theorem dX11_isRoad_0 : decode cX11_isRoad 0 = .ok (.iload_n 1, 1) := by decide +kernel
theorem dX11_isRoad_1 : decode cX11_isRoad 1 = .ok (.ifCond .lt 18, 3) := by decide +kernel
theorem dX11_isRoad_4 : decode cX11_isRoad 4 = .ok (.iload_n 1, 1) := by decide +kernel
theorem dX11_isRoad_5 : decode cX11_isRoad 5 = .ok (.aload_n 0, 1) := by decide +kernel
theorem dX11_isRoad_6 : decode cX11_isRoad 6 = .ok (.getfield 39, 3) := by decide +kernel
theorem dX11_isRoad_9 : decode cX11_isRoad 9 = .ok (.getfield 279, 3) := by decide +kernel
theorem dX11_isRoad_12 : decode cX11_isRoad 12 = .ok (.if_icmp .ge 7, 3) := by decide +kernel
theorem dX11_isRoad_15 : decode cX11_isRoad 15 = .ok (.iconst 1, 1) := by decide +kernel
theorem dX11_isRoad_16 : decode cX11_isRoad 16 = .ok (.goto 4, 3) := by decide +kernel
theorem dX11_isRoad_19 : decode cX11_isRoad 19 = .ok (.iconst 0, 1) := by decide +kernel
theorem dX11_isRoad_20 : decode cX11_isRoad 20 = .ok (.ireturn, 1) := by decide +kernel
theorem dX11_isTrade_0 : decode cX11_isTrade 0 = .ok (.iload_n 1, 1) := by decide +kernel
theorem dX11_isTrade_1 : decode cX11_isTrade 1 = .ok (.ifCond .lt 21, 3) := by decide +kernel
theorem dX11_isTrade_4 : decode cX11_isTrade 4 = .ok (.iload_n 1, 1) := by decide +kernel
theorem dX11_isTrade_5 : decode cX11_isTrade 5 = .ok (.aload_n 0, 1) := by decide +kernel
theorem dX11_isTrade_6 : decode cX11_isTrade 6 = .ok (.getfield 39, 3) := by decide +kernel
theorem dX11_isTrade_9 : decode cX11_isTrade 9 = .ok (.getfield 164, 3) := by decide +kernel
theorem dX11_isTrade_12 : decode cX11_isTrade 12 = .ok (.getfield 251, 3) := by decide +kernel
theorem dX11_isTrade_15 : decode cX11_isTrade 15 = .ok (.if_icmp .ge 7, 3) := by decide +kernel
theorem dX11_isTrade_18 : decode cX11_isTrade 18 = .ok (.iconst 1, 1) := by decide +kernel
theorem dX11_isTrade_19 : decode cX11_isTrade 19 = .ok (.goto 4, 3) := by decide +kernel
theorem dX11_isTrade_22 : decode cX11_isTrade 22 = .ok (.iconst 0, 1) := by decide +kernel
theorem dX11_isTrade_23 : decode cX11_isTrade 23 = .ok (.ireturn, 1) := by decide +kernel
theorem dX11_isYears_0 : decode cX11_isYears 0 = .ok (.iload_n 0, 1) := by decide +kernel
theorem dX11_isYears_1 : decode cX11_isYears 1 = .ok (.iconst 1, 1) := by decide +kernel
theorem dX11_isYears_2 : decode cX11_isYears 2 = .ok (.if_icmp .lt 13, 3) := by decide +kernel
theorem dX11_isYears_5 : decode cX11_isYears 5 = .ok (.iload_n 0, 1) := by decide +kernel
theorem dX11_isYears_6 : decode cX11_isYears 6 = .ok (.bipush 50, 2) := by decide +kernel
theorem dX11_isYears_8 : decode cX11_isYears 8 = .ok (.if_icmp .gt 7, 3) := by decide +kernel
theorem dX11_isYears_11 : decode cX11_isYears 11 = .ok (.iconst 1, 1) := by decide +kernel
theorem dX11_isYears_12 : decode cX11_isYears 12 = .ok (.goto 4, 3) := by decide +kernel
theorem dX11_isYears_15 : decode cX11_isYears 15 = .ok (.iconst 0, 1) := by decide +kernel
theorem dX11_isYears_16 : decode cX11_isYears 16 = .ok (.ireturn, 1) := by decide +kernel
theorem dX11_cell_0 : decode cX11_cell 0 = .ok (.iload_n 0, 1) := by decide +kernel
theorem dX11_cell_1 : decode cX11_cell 1 = .ok (.iconst 5, 1) := by decide +kernel
theorem dX11_cell_2 : decode cX11_cell 2 = .ok (.imul, 1) := by decide +kernel
theorem dX11_cell_3 : decode cX11_cell 3 = .ok (.iload_n 1, 1) := by decide +kernel
theorem dX11_cell_4 : decode cX11_cell 4 = .ok (.iadd, 1) := by decide +kernel
theorem dX11_cell_5 : decode cX11_cell 5 = .ok (.ireturn, 1) := by decide +kernel
theorem dX11_within_0 : decode cX11_within 0 = .ok (.iload_n 1, 1) := by decide +kernel
theorem dX11_within_1 : decode cX11_within 1 = .ok (.iload_n 0, 1) := by decide +kernel
theorem dX11_within_2 : decode cX11_within 2 = .ok (.if_icmp .ge 7, 3) := by decide +kernel
theorem dX11_within_5 : decode cX11_within 5 = .ok (.iload_n 0, 1) := by decide +kernel
theorem dX11_within_6 : decode cX11_within 6 = .ok (.goto 13, 3) := by decide +kernel
theorem dX11_within_9 : decode cX11_within 9 = .ok (.iload_n 1, 1) := by decide +kernel
theorem dX11_within_10 : decode cX11_within 10 = .ok (.iload_n 2, 1) := by decide +kernel
theorem dX11_within_11 : decode cX11_within 11 = .ok (.if_icmp .le 7, 3) := by decide +kernel
theorem dX11_within_14 : decode cX11_within 14 = .ok (.iload_n 2, 1) := by decide +kernel
theorem dX11_within_15 : decode cX11_within 15 = .ok (.goto 4, 3) := by decide +kernel
theorem dX11_within_18 : decode cX11_within 18 = .ok (.iload_n 1, 1) := by decide +kernel
theorem dX11_within_19 : decode cX11_within 19 = .ok (.ireturn, 1) := by decide +kernel
theorem dX11_findWayNow_0 : decode cX11_findWayNow 0 = .ok (.aload_n 0, 1) := by decide +kernel
theorem dX11_findWayNow_1 : decode cX11_findWayNow 1 = .ok (.getfield 74, 3) := by decide +kernel
theorem dX11_findWayNow_4 : decode cX11_findWayNow 4 = .ok (.aload_n 0, 1) := by decide +kernel
theorem dX11_findWayNow_5 : decode cX11_findWayNow 5 = .ok (.getfield 47, 3) := by decide +kernel
theorem dX11_findWayNow_8 : decode cX11_findWayNow 8 = .ok (.invokevirtual 206, 3) := by decide +kernel
theorem dX11_findWayNow_11 : decode cX11_findWayNow 11 = .ok (.aload_n 0, 1) := by decide +kernel
theorem dX11_findWayNow_12 : decode cX11_findWayNow 12 = .ok (.getfield 83, 3) := by decide +kernel
theorem dX11_findWayNow_15 : decode cX11_findWayNow 15 = .ok (.aload_n 0, 1) := by decide +kernel
theorem dX11_findWayNow_16 : decode cX11_findWayNow 16 = .ok (.getfield 39, 3) := by decide +kernel
theorem dX11_findWayNow_19 : decode cX11_findWayNow 19 = .ok (.getfield 164, 3) := by decide +kernel
theorem dX11_findWayNow_22 : decode cX11_findWayNow 22 = .ok (.getfield 176, 3) := by decide +kernel
theorem dX11_findWayNow_25 : decode cX11_findWayNow 25 = .ok (.iload_n 1, 1) := by decide +kernel
theorem dX11_findWayNow_26 : decode cX11_findWayNow 26 = .ok (.iaload, 1) := by decide +kernel
theorem dX11_findWayNow_27 : decode cX11_findWayNow 27 = .ok (.invokevirtual 298, 3) := by decide +kernel
theorem dX11_findWayNow_30 : decode cX11_findWayNow 30 = .ok (.aload_n 0, 1) := by decide +kernel
theorem dX11_findWayNow_31 : decode cX11_findWayNow 31 = .ok (.getfield 83, 3) := by decide +kernel
theorem dX11_findWayNow_34 : decode cX11_findWayNow 34 = .ok (.aload_n 0, 1) := by decide +kernel
theorem dX11_findWayNow_35 : decode cX11_findWayNow 35 = .ok (.getfield 39, 3) := by decide +kernel
theorem dX11_findWayNow_38 : decode cX11_findWayNow 38 = .ok (.getfield 164, 3) := by decide +kernel
theorem dX11_findWayNow_41 : decode cX11_findWayNow 41 = .ok (.getfield 167, 3) := by decide +kernel
theorem dX11_findWayNow_44 : decode cX11_findWayNow 44 = .ok (.iload_n 1, 1) := by decide +kernel
theorem dX11_findWayNow_45 : decode cX11_findWayNow 45 = .ok (.iaload, 1) := by decide +kernel
theorem dX11_findWayNow_46 : decode cX11_findWayNow 46 = .ok (.aload_n 0, 1) := by decide +kernel
theorem dX11_findWayNow_47 : decode cX11_findWayNow 47 = .ok (.getfield 39, 3) := by decide +kernel
theorem dX11_findWayNow_50 : decode cX11_findWayNow 50 = .ok (.getfield 164, 3) := by decide +kernel
theorem dX11_findWayNow_53 : decode cX11_findWayNow 53 = .ok (.getfield 170, 3) := by decide +kernel
theorem dX11_findWayNow_56 : decode cX11_findWayNow 56 = .ok (.iload_n 1, 1) := by decide +kernel
theorem dX11_findWayNow_57 : decode cX11_findWayNow 57 = .ok (.iaload, 1) := by decide +kernel
theorem dX11_findWayNow_58 : decode cX11_findWayNow 58 = .ok (.invokevirtual 301, 3) := by decide +kernel
theorem dX11_findWayNow_61 : decode cX11_findWayNow 61 = .ok (.ireturn, 1) := by decide +kernel
theorem dX11_beginTrial_0 : decode cX11_beginTrial 0 = .ok (.aload_n 0, 1) := by decide +kernel
theorem dX11_beginTrial_1 : decode cX11_beginTrial 1 = .ok (.getfield 51, 3) := by decide +kernel
theorem dX11_beginTrial_4 : decode cX11_beginTrial 4 = .ok (.aload_n 0, 1) := by decide +kernel
theorem dX11_beginTrial_5 : decode cX11_beginTrial 5 = .ok (.getfield 47, 3) := by decide +kernel
theorem dX11_beginTrial_8 : decode cX11_beginTrial 8 = .ok (.invokevirtual 304, 3) := by decide +kernel
theorem dX11_beginTrial_11 : decode cX11_beginTrial 11 = .ok (.aload_n 0, 1) := by decide +kernel
theorem dX11_beginTrial_12 : decode cX11_beginTrial 12 = .ok (.getfield 57, 3) := by decide +kernel
theorem dX11_beginTrial_15 : decode cX11_beginTrial 15 = .ok (.aload_n 0, 1) := by decide +kernel
theorem dX11_beginTrial_16 : decode cX11_beginTrial 16 = .ok (.getfield 39, 3) := by decide +kernel
theorem dX11_beginTrial_19 : decode cX11_beginTrial 19 = .ok (.getfield 164, 3) := by decide +kernel
theorem dX11_beginTrial_22 : decode cX11_beginTrial 22 = .ok (.invokevirtual 307, 3) := by decide +kernel
theorem dX11_beginTrial_25 : decode cX11_beginTrial 25 = .ok (.return_, 1) := by decide +kernel
theorem dX11_passTrial_0 : decode cX11_passTrial 0 = .ok (.iconst 0, 1) := by decide +kernel
theorem dX11_passTrial_1 : decode cX11_passTrial 1 = .ok (.istore_n 3, 1) := by decide +kernel
theorem dX11_passTrial_2 : decode cX11_passTrial 2 = .ok (.iload_n 3, 1) := by decide +kernel
theorem dX11_passTrial_3 : decode cX11_passTrial 3 = .ok (.iload_n 1, 1) := by decide +kernel
theorem dX11_passTrial_4 : decode cX11_passTrial 4 = .ok (.if_icmp .ge 25, 3) := by decide +kernel
theorem dX11_passTrial_7 : decode cX11_passTrial 7 = .ok (.aload_n 0, 1) := by decide +kernel
theorem dX11_passTrial_8 : decode cX11_passTrial 8 = .ok (.getfield 92, 3) := by decide +kernel
theorem dX11_passTrial_11 : decode cX11_passTrial 11 = .ok (.aload_n 0, 1) := by decide +kernel
theorem dX11_passTrial_12 : decode cX11_passTrial 12 = .ok (.getfield 51, 3) := by decide +kernel
theorem dX11_passTrial_15 : decode cX11_passTrial 15 = .ok (.aload_n 0, 1) := by decide +kernel
theorem dX11_passTrial_16 : decode cX11_passTrial 16 = .ok (.getfield 57, 3) := by decide +kernel
theorem dX11_passTrial_19 : decode cX11_passTrial 19 = .ok (.iload_n 2, 1) := by decide +kernel
theorem dX11_passTrial_20 : decode cX11_passTrial 20 = .ok (.invokevirtual 216, 3) := by decide +kernel
theorem dX11_passTrial_23 : decode cX11_passTrial 23 = .ok (.iinc 3 1, 3) := by decide +kernel
theorem dX11_passTrial_26 : decode cX11_passTrial 26 = .ok (.goto (-24), 3) := by decide +kernel
theorem dX11_passTrial_29 : decode cX11_passTrial 29 = .ok (.return_, 1) := by decide +kernel
theorem dX11_wornBehind_0 : decode cX11_wornBehind 0 = .ok (.iconst 1, 1) := by decide +kernel
theorem dX11_wornBehind_1 : decode cX11_wornBehind 1 = .ok (.istore_n 3, 1) := by decide +kernel
theorem dX11_wornBehind_2 : decode cX11_wornBehind 2 = .ok (.iload_n 3, 1) := by decide +kernel
theorem dX11_wornBehind_3 : decode cX11_wornBehind 3 = .ok (.iload_n 2, 1) := by decide +kernel
theorem dX11_wornBehind_4 : decode cX11_wornBehind 4 = .ok (.if_icmp .gt 38, 3) := by decide +kernel
theorem dX11_wornBehind_7 : decode cX11_wornBehind 7 = .ok (.aload_n 0, 1) := by decide +kernel
theorem dX11_wornBehind_8 : decode cX11_wornBehind 8 = .ok (.getfield 92, 3) := by decide +kernel
theorem dX11_wornBehind_11 : decode cX11_wornBehind 11 = .ok (.aload_n 0, 1) := by decide +kernel
theorem dX11_wornBehind_12 : decode cX11_wornBehind 12 = .ok (.getfield 51, 3) := by decide +kernel
theorem dX11_wornBehind_15 : decode cX11_wornBehind 15 = .ok (.aload_n 0, 1) := by decide +kernel
theorem dX11_wornBehind_16 : decode cX11_wornBehind 16 = .ok (.getfield 57, 3) := by decide +kernel
theorem dX11_wornBehind_19 : decode cX11_wornBehind 19 = .ok (.iconst (-1), 1) := by decide +kernel
theorem dX11_wornBehind_20 : decode cX11_wornBehind 20 = .ok (.invokevirtual 216, 3) := by decide +kernel
theorem dX11_wornBehind_23 : decode cX11_wornBehind 23 = .ok (.aload_n 0, 1) := by decide +kernel
theorem dX11_wornBehind_24 : decode cX11_wornBehind 24 = .ok (.getfield 51, 3) := by decide +kernel
theorem dX11_wornBehind_27 : decode cX11_wornBehind 27 = .ok (.iload_n 1, 1) := by decide +kernel
theorem dX11_wornBehind_28 : decode cX11_wornBehind 28 = .ok (.invokevirtual 151, 3) := by decide +kernel
theorem dX11_wornBehind_31 : decode cX11_wornBehind 31 = .ok (.ifCond .eq 5, 3) := by decide +kernel
theorem dX11_wornBehind_34 : decode cX11_wornBehind 34 = .ok (.iload_n 3, 1) := by decide +kernel
theorem dX11_wornBehind_35 : decode cX11_wornBehind 35 = .ok (.ireturn, 1) := by decide +kernel
theorem dX11_wornBehind_36 : decode cX11_wornBehind 36 = .ok (.iinc 3 1, 3) := by decide +kernel
theorem dX11_wornBehind_39 : decode cX11_wornBehind 39 = .ok (.goto (-37), 3) := by decide +kernel
theorem dX11_wornBehind_42 : decode cX11_wornBehind 42 = .ok (.iconst (-1), 1) := by decide +kernel
theorem dX11_wornBehind_43 : decode cX11_wornBehind 43 = .ok (.ireturn, 1) := by decide +kernel
theorem dX11_holesAsTold_0 : decode cX11_holesAsTold 0 = .ok (.aload_n 0, 1) := by decide +kernel
theorem dX11_holesAsTold_1 : decode cX11_holesAsTold 1 = .ok (.invokevirtual 236, 3) := by decide +kernel
theorem dX11_holesAsTold_4 : decode cX11_holesAsTold 4 = .ok (.aload_n 0, 1) := by decide +kernel
theorem dX11_holesAsTold_5 : decode cX11_holesAsTold 5 = .ok (.iload_n 1, 1) := by decide +kernel
theorem dX11_holesAsTold_6 : decode cX11_holesAsTold 6 = .ok (.iconst (-1), 1) := by decide +kernel
theorem dX11_holesAsTold_7 : decode cX11_holesAsTold 7 = .ok (.invokevirtual 262, 3) := by decide +kernel
theorem dX11_holesAsTold_10 : decode cX11_holesAsTold 10 = .ok (.aload_n 0, 1) := by decide +kernel
theorem dX11_holesAsTold_11 : decode cX11_holesAsTold 11 = .ok (.aload_n 0, 1) := by decide +kernel
theorem dX11_holesAsTold_12 : decode cX11_holesAsTold 12 = .ok (.getfield 51, 3) := by decide +kernel
theorem dX11_holesAsTold_15 : decode cX11_holesAsTold 15 = .ok (.invokevirtual 266, 3) := by decide +kernel
theorem dX11_holesAsTold_18 : decode cX11_holesAsTold 18 = .ok (.ireturn, 1) := by decide +kernel
theorem dX11_holesIfAllCarry_0 : decode cX11_holesIfAllCarry 0 = .ok (.aload_n 0, 1) := by decide +kernel
theorem dX11_holesIfAllCarry_1 : decode cX11_holesIfAllCarry 1 = .ok (.invokevirtual 236, 3) := by decide +kernel
theorem dX11_holesIfAllCarry_4 : decode cX11_holesIfAllCarry 4 = .ok (.aload_n 0, 1) := by decide +kernel
theorem dX11_holesIfAllCarry_5 : decode cX11_holesIfAllCarry 5 = .ok (.getfield 57, 3) := by decide +kernel
theorem dX11_holesIfAllCarry_8 : decode cX11_holesIfAllCarry 8 = .ok (.iload_n 1, 1) := by decide +kernel
theorem dX11_holesIfAllCarry_9 : decode cX11_holesIfAllCarry 9 = .ok (.invokevirtual 310, 3) := by decide +kernel
theorem dX11_holesIfAllCarry_12 : decode cX11_holesIfAllCarry 12 = .ok (.aload_n 0, 1) := by decide +kernel
theorem dX11_holesIfAllCarry_13 : decode cX11_holesIfAllCarry 13 = .ok (.iload_n 2, 1) := by decide +kernel
theorem dX11_holesIfAllCarry_14 : decode cX11_holesIfAllCarry 14 = .ok (.iconst (-1), 1) := by decide +kernel
theorem dX11_holesIfAllCarry_15 : decode cX11_holesIfAllCarry 15 = .ok (.invokevirtual 262, 3) := by decide +kernel
theorem dX11_holesIfAllCarry_18 : decode cX11_holesIfAllCarry 18 = .ok (.aload_n 0, 1) := by decide +kernel
theorem dX11_holesIfAllCarry_19 : decode cX11_holesIfAllCarry 19 = .ok (.aload_n 0, 1) := by decide +kernel
theorem dX11_holesIfAllCarry_20 : decode cX11_holesIfAllCarry 20 = .ok (.getfield 51, 3) := by decide +kernel
theorem dX11_holesIfAllCarry_23 : decode cX11_holesIfAllCarry 23 = .ok (.invokevirtual 266, 3) := by decide +kernel
theorem dX11_holesIfAllCarry_26 : decode cX11_holesIfAllCarry 26 = .ok (.ireturn, 1) := by decide +kernel
theorem dX11_holesTogether_0 : decode cX11_holesTogether 0 = .ok (.iconst 0, 1) := by decide +kernel
theorem dX11_holesTogether_1 : decode cX11_holesTogether 1 = .ok (.istore_n 2, 1) := by decide +kernel
theorem dX11_holesTogether_2 : decode cX11_holesTogether 2 = .ok (.iconst 0, 1) := by decide +kernel
theorem dX11_holesTogether_3 : decode cX11_holesTogether 3 = .ok (.istore_n 3, 1) := by decide +kernel
theorem dX11_holesTogether_4 : decode cX11_holesTogether 4 = .ok (.iload_n 3, 1) := by decide +kernel
theorem dX11_holesTogether_5 : decode cX11_holesTogether 5 = .ok (.aload_n 0, 1) := by decide +kernel
theorem dX11_holesTogether_6 : decode cX11_holesTogether 6 = .ok (.getfield 39, 3) := by decide +kernel
theorem dX11_holesTogether_9 : decode cX11_holesTogether 9 = .ok (.getfield 279, 3) := by decide +kernel
theorem dX11_holesTogether_12 : decode cX11_holesTogether 12 = .ok (.if_icmp .ge 24, 3) := by decide +kernel
theorem dX11_holesTogether_15 : decode cX11_holesTogether 15 = .ok (.iload_n 2, 1) := by decide +kernel
theorem dX11_holesTogether_16 : decode cX11_holesTogether 16 = .ok (.aload_n 1, 1) := by decide +kernel
theorem dX11_holesTogether_17 : decode cX11_holesTogether 17 = .ok (.getfield 144, 3) := by decide +kernel
theorem dX11_holesTogether_20 : decode cX11_holesTogether 20 = .ok (.iload_n 3, 1) := by decide +kernel
theorem dX11_holesTogether_21 : decode cX11_holesTogether 21 = .ok (.iaload, 1) := by decide +kernel
theorem dX11_holesTogether_22 : decode cX11_holesTogether 22 = .ok (.sipush 1000, 3) := by decide +kernel
theorem dX11_holesTogether_25 : decode cX11_holesTogether 25 = .ok (.invokestatic 313, 3) := by decide +kernel
theorem dX11_holesTogether_28 : decode cX11_holesTogether 28 = .ok (.iadd, 1) := by decide +kernel
theorem dX11_holesTogether_29 : decode cX11_holesTogether 29 = .ok (.istore_n 2, 1) := by decide +kernel
theorem dX11_holesTogether_30 : decode cX11_holesTogether 30 = .ok (.iinc 3 1, 3) := by decide +kernel
theorem dX11_holesTogether_33 : decode cX11_holesTogether 33 = .ok (.goto (-29), 3) := by decide +kernel
theorem dX11_holesTogether_36 : decode cX11_holesTogether 36 = .ok (.iload_n 2, 1) := by decide +kernel
theorem dX11_holesTogether_37 : decode cX11_holesTogether 37 = .ok (.ireturn, 1) := by decide +kernel
theorem dX11_wornRoads_0 : decode cX11_wornRoads 0 = .ok (.iconst 0, 1) := by decide +kernel
theorem dX11_wornRoads_1 : decode cX11_wornRoads 1 = .ok (.istore_n 2, 1) := by decide +kernel
theorem dX11_wornRoads_2 : decode cX11_wornRoads 2 = .ok (.iconst 0, 1) := by decide +kernel
theorem dX11_wornRoads_3 : decode cX11_wornRoads 3 = .ok (.istore_n 3, 1) := by decide +kernel
theorem dX11_wornRoads_4 : decode cX11_wornRoads 4 = .ok (.iload_n 3, 1) := by decide +kernel
theorem dX11_wornRoads_5 : decode cX11_wornRoads 5 = .ok (.aload_n 0, 1) := by decide +kernel
theorem dX11_wornRoads_6 : decode cX11_wornRoads 6 = .ok (.getfield 39, 3) := by decide +kernel
theorem dX11_wornRoads_9 : decode cX11_wornRoads 9 = .ok (.getfield 279, 3) := by decide +kernel
theorem dX11_wornRoads_12 : decode cX11_wornRoads 12 = .ok (.if_icmp .ge 25, 3) := by decide +kernel
theorem dX11_wornRoads_15 : decode cX11_wornRoads 15 = .ok (.iload_n 2, 1) := by decide +kernel
theorem dX11_wornRoads_16 : decode cX11_wornRoads 16 = .ok (.aload_n 1, 1) := by decide +kernel
theorem dX11_wornRoads_17 : decode cX11_wornRoads 17 = .ok (.iload_n 3, 1) := by decide +kernel
theorem dX11_wornRoads_18 : decode cX11_wornRoads 18 = .ok (.invokevirtual 151, 3) := by decide +kernel
theorem dX11_wornRoads_21 : decode cX11_wornRoads 21 = .ok (.ifCond .eq 7, 3) := by decide +kernel
theorem dX11_wornRoads_24 : decode cX11_wornRoads 24 = .ok (.iconst 1, 1) := by decide +kernel
theorem dX11_wornRoads_25 : decode cX11_wornRoads 25 = .ok (.goto 4, 3) := by decide +kernel
theorem dX11_wornRoads_28 : decode cX11_wornRoads 28 = .ok (.iconst 0, 1) := by decide +kernel
theorem dX11_wornRoads_29 : decode cX11_wornRoads 29 = .ok (.iadd, 1) := by decide +kernel
theorem dX11_wornRoads_30 : decode cX11_wornRoads 30 = .ok (.istore_n 2, 1) := by decide +kernel
theorem dX11_wornRoads_31 : decode cX11_wornRoads 31 = .ok (.iinc 3 1, 3) := by decide +kernel
theorem dX11_wornRoads_34 : decode cX11_wornRoads 34 = .ok (.goto (-30), 3) := by decide +kernel
theorem dX11_wornRoads_37 : decode cX11_wornRoads 37 = .ok (.iload_n 2, 1) := by decide +kernel
theorem dX11_wornRoads_38 : decode cX11_wornRoads 38 = .ok (.ireturn, 1) := by decide +kernel
theorem dX11_leavesToldLayer_0 : decode cX11_leavesToldLayer 0 = .ok (.iconst 0, 1) := by decide +kernel
theorem dX11_leavesToldLayer_1 : decode cX11_leavesToldLayer 1 = .ok (.istore_n 3, 1) := by decide +kernel
theorem dX11_leavesToldLayer_2 : decode cX11_leavesToldLayer 2 = .ok (.iload_n 3, 1) := by decide +kernel
theorem dX11_leavesToldLayer_3 : decode cX11_leavesToldLayer 3 = .ok (.aload_n 0, 1) := by decide +kernel
theorem dX11_leavesToldLayer_4 : decode cX11_leavesToldLayer 4 = .ok (.getfield 39, 3) := by decide +kernel
theorem dX11_leavesToldLayer_7 : decode cX11_leavesToldLayer 7 = .ok (.getfield 242, 3) := by decide +kernel
theorem dX11_leavesToldLayer_10 : decode cX11_leavesToldLayer 10 = .ok (.if_icmp .ge 110, 3) := by decide +kernel
theorem dX11_leavesToldLayer_13 : decode cX11_leavesToldLayer 13 = .ok (.iconst 0, 1) := by decide +kernel
theorem dX11_leavesToldLayer_14 : decode cX11_leavesToldLayer 14 = .ok (.istore 4, 2) := by decide +kernel
theorem dX11_leavesToldLayer_16 : decode cX11_leavesToldLayer 16 = .ok (.iconst 0, 1) := by decide +kernel
theorem dX11_leavesToldLayer_17 : decode cX11_leavesToldLayer 17 = .ok (.istore 5, 2) := by decide +kernel
theorem dX11_leavesToldLayer_19 : decode cX11_leavesToldLayer 19 = .ok (.iload 5, 2) := by decide +kernel
theorem dX11_leavesToldLayer_21 : decode cX11_leavesToldLayer 21 = .ok (.aload_n 0, 1) := by decide +kernel
theorem dX11_leavesToldLayer_22 : decode cX11_leavesToldLayer 22 = .ok (.getfield 39, 3) := by decide +kernel
theorem dX11_leavesToldLayer_25 : decode cX11_leavesToldLayer 25 = .ok (.getfield 164, 3) := by decide +kernel
theorem dX11_leavesToldLayer_28 : decode cX11_leavesToldLayer 28 = .ok (.getfield 251, 3) := by decide +kernel
theorem dX11_leavesToldLayer_31 : decode cX11_leavesToldLayer 31 = .ok (.if_icmp .ge 67, 3) := by decide +kernel
theorem dX11_leavesToldLayer_34 : decode cX11_leavesToldLayer 34 = .ok (.iload_n 2, 1) := by decide +kernel
theorem dX11_leavesToldLayer_35 : decode cX11_leavesToldLayer 35 = .ok (.iload 5, 2) := by decide +kernel
theorem dX11_leavesToldLayer_37 : decode cX11_leavesToldLayer 37 = .ok (.ishr, 1) := by decide +kernel
theorem dX11_leavesToldLayer_38 : decode cX11_leavesToldLayer 38 = .ok (.iconst 1, 1) := by decide +kernel
theorem dX11_leavesToldLayer_39 : decode cX11_leavesToldLayer 39 = .ok (.iand, 1) := by decide +kernel
theorem dX11_leavesToldLayer_40 : decode cX11_leavesToldLayer 40 = .ok (.iconst 1, 1) := by decide +kernel
theorem dX11_leavesToldLayer_41 : decode cX11_leavesToldLayer 41 = .ok (.if_icmp .ne 51, 3) := by decide +kernel
theorem dX11_leavesToldLayer_44 : decode cX11_leavesToldLayer 44 = .ok (.aload_n 0, 1) := by decide +kernel
theorem dX11_leavesToldLayer_45 : decode cX11_leavesToldLayer 45 = .ok (.getfield 39, 3) := by decide +kernel
theorem dX11_leavesToldLayer_48 : decode cX11_leavesToldLayer 48 = .ok (.getfield 164, 3) := by decide +kernel
theorem dX11_leavesToldLayer_51 : decode cX11_leavesToldLayer 51 = .ok (.getfield 173, 3) := by decide +kernel
theorem dX11_leavesToldLayer_54 : decode cX11_leavesToldLayer 54 = .ok (.iload 5, 2) := by decide +kernel
theorem dX11_leavesToldLayer_56 : decode cX11_leavesToldLayer 56 = .ok (.iaload, 1) := by decide +kernel
theorem dX11_leavesToldLayer_57 : decode cX11_leavesToldLayer 57 = .ok (.iload_n 3, 1) := by decide +kernel
theorem dX11_leavesToldLayer_58 : decode cX11_leavesToldLayer 58 = .ok (.if_icmp .ne 34, 3) := by decide +kernel
theorem dX11_leavesToldLayer_61 : decode cX11_leavesToldLayer 61 = .ok (.iload 4, 2) := by decide +kernel
theorem dX11_leavesToldLayer_63 : decode cX11_leavesToldLayer 63 = .ok (.aload_n 0, 1) := by decide +kernel
theorem dX11_leavesToldLayer_64 : decode cX11_leavesToldLayer 64 = .ok (.getfield 39, 3) := by decide +kernel
theorem dX11_leavesToldLayer_67 : decode cX11_leavesToldLayer 67 = .ok (.getfield 164, 3) := by decide +kernel
theorem dX11_leavesToldLayer_70 : decode cX11_leavesToldLayer 70 = .ok (.getfield 176, 3) := by decide +kernel
theorem dX11_leavesToldLayer_73 : decode cX11_leavesToldLayer 73 = .ok (.iload 5, 2) := by decide +kernel
theorem dX11_leavesToldLayer_75 : decode cX11_leavesToldLayer 75 = .ok (.iaload, 1) := by decide +kernel
theorem dX11_leavesToldLayer_76 : decode cX11_leavesToldLayer 76 = .ok (.aload_n 0, 1) := by decide +kernel
theorem dX11_leavesToldLayer_77 : decode cX11_leavesToldLayer 77 = .ok (.getfield 74, 3) := by decide +kernel
theorem dX11_leavesToldLayer_80 : decode cX11_leavesToldLayer 80 = .ok (.iload_n 1, 1) := by decide +kernel
theorem dX11_leavesToldLayer_81 : decode cX11_leavesToldLayer 81 = .ok (.iload_n 3, 1) := by decide +kernel
theorem dX11_leavesToldLayer_82 : decode cX11_leavesToldLayer 82 = .ok (.invokevirtual 210, 3) := by decide +kernel
theorem dX11_leavesToldLayer_85 : decode cX11_leavesToldLayer 85 = .ok (.imul, 1) := by decide +kernel
theorem dX11_leavesToldLayer_86 : decode cX11_leavesToldLayer 86 = .ok (.bipush 100, 2) := by decide +kernel
theorem dX11_leavesToldLayer_88 : decode cX11_leavesToldLayer 88 = .ok (.idiv, 1) := by decide +kernel
theorem dX11_leavesToldLayer_89 : decode cX11_leavesToldLayer 89 = .ok (.iadd, 1) := by decide +kernel
theorem dX11_leavesToldLayer_90 : decode cX11_leavesToldLayer 90 = .ok (.istore 4, 2) := by decide +kernel
theorem dX11_leavesToldLayer_92 : decode cX11_leavesToldLayer 92 = .ok (.iinc 5 1, 3) := by decide +kernel
theorem dX11_leavesToldLayer_95 : decode cX11_leavesToldLayer 95 = .ok (.goto (-76), 3) := by decide +kernel
theorem dX11_leavesToldLayer_98 : decode cX11_leavesToldLayer 98 = .ok (.iload 4, 2) := by decide +kernel
theorem dX11_leavesToldLayer_100 : decode cX11_leavesToldLayer 100 = .ok (.aload_n 0, 1) := by decide +kernel
theorem dX11_leavesToldLayer_101 : decode cX11_leavesToldLayer 101 = .ok (.getfield 47, 3) := by decide +kernel
theorem dX11_leavesToldLayer_104 : decode cX11_leavesToldLayer 104 = .ok (.getfield 272, 3) := by decide +kernel
theorem dX11_leavesToldLayer_107 : decode cX11_leavesToldLayer 107 = .ok (.iload_n 3, 1) := by decide +kernel
theorem dX11_leavesToldLayer_108 : decode cX11_leavesToldLayer 108 = .ok (.iaload, 1) := by decide +kernel
theorem dX11_leavesToldLayer_109 : decode cX11_leavesToldLayer 109 = .ok (.if_icmp .eq 5, 3) := by decide +kernel
theorem dX11_leavesToldLayer_112 : decode cX11_leavesToldLayer 112 = .ok (.iconst 0, 1) := by decide +kernel
theorem dX11_leavesToldLayer_113 : decode cX11_leavesToldLayer 113 = .ok (.ireturn, 1) := by decide +kernel
theorem dX11_leavesToldLayer_114 : decode cX11_leavesToldLayer 114 = .ok (.iinc 3 1, 3) := by decide +kernel
theorem dX11_leavesToldLayer_117 : decode cX11_leavesToldLayer 117 = .ok (.goto (-115), 3) := by decide +kernel
theorem dX11_leavesToldLayer_120 : decode cX11_leavesToldLayer 120 = .ok (.iconst 1, 1) := by decide +kernel
theorem dX11_leavesToldLayer_121 : decode cX11_leavesToldLayer 121 = .ok (.ireturn, 1) := by decide +kernel
theorem dX11_cameInWar_0 : decode cX11_cameInWar 0 = .ok (.iconst 0, 1) := by decide +kernel
theorem dX11_cameInWar_1 : decode cX11_cameInWar 1 = .ok (.istore_n 2, 1) := by decide +kernel
theorem dX11_cameInWar_2 : decode cX11_cameInWar 2 = .ok (.iconst 0, 1) := by decide +kernel
theorem dX11_cameInWar_3 : decode cX11_cameInWar 3 = .ok (.istore_n 3, 1) := by decide +kernel
theorem dX11_cameInWar_4 : decode cX11_cameInWar 4 = .ok (.iload_n 3, 1) := by decide +kernel
theorem dX11_cameInWar_5 : decode cX11_cameInWar 5 = .ok (.iload_n 1, 1) := by decide +kernel
theorem dX11_cameInWar_6 : decode cX11_cameInWar 6 = .ok (.if_icmp .ge 68, 3) := by decide +kernel
theorem dX11_cameInWar_9 : decode cX11_cameInWar 9 = .ok (.aload_n 0, 1) := by decide +kernel
theorem dX11_cameInWar_10 : decode cX11_cameInWar 10 = .ok (.aload_n 0, 1) := by decide +kernel
theorem dX11_cameInWar_11 : decode cX11_cameInWar 11 = .ok (.getfield 39, 3) := by decide +kernel
theorem dX11_cameInWar_14 : decode cX11_cameInWar 14 = .ok (.getfield 279, 3) := by decide +kernel
theorem dX11_cameInWar_17 : decode cX11_cameInWar 17 = .ok (.invokevirtual 318, 3) := by decide +kernel
theorem dX11_cameInWar_20 : decode cX11_cameInWar 20 = .ok (.istore 4, 2) := by decide +kernel
theorem dX11_cameInWar_22 : decode cX11_cameInWar 22 = .ok (.aload_n 0, 1) := by decide +kernel
theorem dX11_cameInWar_23 : decode cX11_cameInWar 23 = .ok (.getfield 51, 3) := by decide +kernel
theorem dX11_cameInWar_26 : decode cX11_cameInWar 26 = .ok (.getfield 144, 3) := by decide +kernel
theorem dX11_cameInWar_29 : decode cX11_cameInWar 29 = .ok (.iload 4, 2) := by decide +kernel
theorem dX11_cameInWar_31 : decode cX11_cameInWar 31 = .ok (.dup2, 1) := by decide +kernel
theorem dX11_cameInWar_32 : decode cX11_cameInWar 32 = .ok (.iaload, 1) := by decide +kernel
theorem dX11_cameInWar_33 : decode cX11_cameInWar 33 = .ok (.aload_n 0, 1) := by decide +kernel
theorem dX11_cameInWar_34 : decode cX11_cameInWar 34 = .ok (.sipush 500, 3) := by decide +kernel
theorem dX11_cameInWar_37 : decode cX11_cameInWar 37 = .ok (.invokevirtual 318, 3) := by decide +kernel
theorem dX11_cameInWar_40 : decode cX11_cameInWar 40 = .ok (.iadd, 1) := by decide +kernel
theorem dX11_cameInWar_41 : decode cX11_cameInWar 41 = .ok (.iastore, 1) := by decide +kernel
theorem dX11_cameInWar_42 : decode cX11_cameInWar 42 = .ok (.aload_n 0, 1) := by decide +kernel
theorem dX11_cameInWar_43 : decode cX11_cameInWar 43 = .ok (.getfield 92, 3) := by decide +kernel
theorem dX11_cameInWar_46 : decode cX11_cameInWar 46 = .ok (.aload_n 0, 1) := by decide +kernel
theorem dX11_cameInWar_47 : decode cX11_cameInWar 47 = .ok (.getfield 51, 3) := by decide +kernel
theorem dX11_cameInWar_50 : decode cX11_cameInWar 50 = .ok (.aload_n 0, 1) := by decide +kernel
theorem dX11_cameInWar_51 : decode cX11_cameInWar 51 = .ok (.getfield 57, 3) := by decide +kernel
theorem dX11_cameInWar_54 : decode cX11_cameInWar 54 = .ok (.iconst (-1), 1) := by decide +kernel
theorem dX11_cameInWar_55 : decode cX11_cameInWar 55 = .ok (.invokevirtual 216, 3) := by decide +kernel
theorem dX11_cameInWar_58 : decode cX11_cameInWar 58 = .ok (.iload_n 2, 1) := by decide +kernel
theorem dX11_cameInWar_59 : decode cX11_cameInWar 59 = .ok (.aload_n 0, 1) := by decide +kernel
theorem dX11_cameInWar_60 : decode cX11_cameInWar 60 = .ok (.getfield 92, 3) := by decide +kernel
theorem dX11_cameInWar_63 : decode cX11_cameInWar 63 = .ok (.getfield 321, 3) := by decide +kernel
theorem dX11_cameInWar_66 : decode cX11_cameInWar 66 = .ok (.iadd, 1) := by decide +kernel
theorem dX11_cameInWar_67 : decode cX11_cameInWar 67 = .ok (.istore_n 2, 1) := by decide +kernel
theorem dX11_cameInWar_68 : decode cX11_cameInWar 68 = .ok (.iinc 3 1, 3) := by decide +kernel
theorem dX11_cameInWar_71 : decode cX11_cameInWar 71 = .ok (.goto (-67), 3) := by decide +kernel
theorem dX11_cameInWar_74 : decode cX11_cameInWar 74 = .ok (.iload_n 2, 1) := by decide +kernel
theorem dX11_cameInWar_75 : decode cX11_cameInWar 75 = .ok (.ireturn, 1) := by decide +kernel
theorem dX11_drawBelow_0 : decode cX11_drawBelow 0 = .ok (.aload_n 0, 1) := by decide +kernel
theorem dX11_drawBelow_1 : decode cX11_drawBelow 1 = .ok (.aload_n 0, 1) := by decide +kernel
theorem dX11_drawBelow_2 : decode cX11_drawBelow 2 = .ok (.getfield 282, 3) := by decide +kernel
theorem dX11_drawBelow_5 : decode cX11_drawBelow 5 = .ok (.ldc2_w 324, 3) := by decide +kernel
theorem dX11_drawBelow_8 : decode cX11_drawBelow 8 = .ok (.lmul, 1) := by decide +kernel
theorem dX11_drawBelow_9 : decode cX11_drawBelow 9 = .ok (.ldc2_w 326, 3) := by decide +kernel
theorem dX11_drawBelow_12 : decode cX11_drawBelow 12 = .ok (.ladd, 1) := by decide +kernel
theorem dX11_drawBelow_13 : decode cX11_drawBelow 13 = .ok (.ldc2_w 328, 3) := by decide +kernel
theorem dX11_drawBelow_16 : decode cX11_drawBelow 16 = .ok (.lrem, 1) := by decide +kernel
theorem dX11_drawBelow_17 : decode cX11_drawBelow 17 = .ok (.putfield 282, 3) := by decide +kernel
theorem dX11_drawBelow_20 : decode cX11_drawBelow 20 = .ok (.iload_n 1, 1) := by decide +kernel
theorem dX11_drawBelow_21 : decode cX11_drawBelow 21 = .ok (.ifCond .le 18, 3) := by decide +kernel
theorem dX11_drawBelow_24 : decode cX11_drawBelow 24 = .ok (.aload_n 0, 1) := by decide +kernel
theorem dX11_drawBelow_25 : decode cX11_drawBelow 25 = .ok (.getfield 282, 3) := by decide +kernel
theorem dX11_drawBelow_28 : decode cX11_drawBelow 28 = .ok (.ldc2_w 330, 3) := by decide +kernel
theorem dX11_drawBelow_31 : decode cX11_drawBelow 31 = .ok (.ldiv, 1) := by decide +kernel
theorem dX11_drawBelow_32 : decode cX11_drawBelow 32 = .ok (.iload_n 1, 1) := by decide +kernel
theorem dX11_drawBelow_33 : decode cX11_drawBelow 33 = .ok (.i2l, 1) := by decide +kernel
theorem dX11_drawBelow_34 : decode cX11_drawBelow 34 = .ok (.lrem, 1) := by decide +kernel
theorem dX11_drawBelow_35 : decode cX11_drawBelow 35 = .ok (.l2i, 1) := by decide +kernel
theorem dX11_drawBelow_36 : decode cX11_drawBelow 36 = .ok (.goto 4, 3) := by decide +kernel
theorem dX11_drawBelow_39 : decode cX11_drawBelow 39 = .ok (.iconst 0, 1) := by decide +kernel
theorem dX11_drawBelow_40 : decode cX11_drawBelow 40 = .ok (.ireturn, 1) := by decide +kernel
