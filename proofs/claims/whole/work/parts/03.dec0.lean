theorem dX1_init_0 : decode cX1_init 0 = .ok (.aload_n 0, 1) := by decide +kernel
theorem dX1_init_1 : decode cX1_init 1 = .ok (.invokespecial 5, 3) := by decide +kernel
theorem dX1_init_4 : decode cX1_init 4 = .ok (.aload_n 0, 1) := by decide +kernel
theorem dX1_init_5 : decode cX1_init 5 = .ok (.iconst 5, 1) := by decide +kernel
theorem dX1_init_6 : decode cX1_init 6 = .ok (.newarray .long, 2) := by decide +kernel
theorem dX1_init_8 : decode cX1_init 8 = .ok (.putfield 11, 3) := by decide +kernel
theorem dX1_init_11 : decode cX1_init 11 = .ok (.aload_n 0, 1) := by decide +kernel
theorem dX1_init_12 : decode cX1_init 12 = .ok (.bipush 7, 2) := by decide +kernel
theorem dX1_init_14 : decode cX1_init 14 = .ok (.newarray .long, 2) := by decide +kernel
theorem dX1_init_16 : decode cX1_init 16 = .ok (.putfield 17, 3) := by decide +kernel
theorem dX1_init_19 : decode cX1_init 19 = .ok (.aload_n 0, 1) := by decide +kernel
theorem dX1_init_20 : decode cX1_init 20 = .ok (.iconst 5, 1) := by decide +kernel
theorem dX1_init_21 : decode cX1_init 21 = .ok (.newarray .int, 2) := by decide +kernel
theorem dX1_init_23 : decode cX1_init 23 = .ok (.putfield 20, 3) := by decide +kernel
theorem dX1_init_26 : decode cX1_init 26 = .ok (.aload_n 0, 1) := by decide +kernel
theorem dX1_init_27 : decode cX1_init 27 = .ok (.iconst 5, 1) := by decide +kernel
theorem dX1_init_28 : decode cX1_init 28 = .ok (.newarray .int, 2) := by decide +kernel
theorem dX1_init_30 : decode cX1_init 30 = .ok (.putfield 24, 3) := by decide +kernel
theorem dX1_init_33 : decode cX1_init 33 = .ok (.aload_n 0, 1) := by decide +kernel
theorem dX1_init_34 : decode cX1_init 34 = .ok (.bipush 10, 2) := by decide +kernel
theorem dX1_init_36 : decode cX1_init 36 = .ok (.newarray .int, 2) := by decide +kernel
theorem dX1_init_38 : decode cX1_init 38 = .ok (.putfield 27, 3) := by decide +kernel
theorem dX1_init_41 : decode cX1_init 41 = .ok (.aload_n 0, 1) := by decide +kernel
theorem dX1_init_42 : decode cX1_init 42 = .ok (.bipush 10, 2) := by decide +kernel
theorem dX1_init_44 : decode cX1_init 44 = .ok (.newarray .int, 2) := by decide +kernel
theorem dX1_init_46 : decode cX1_init 46 = .ok (.putfield 30, 3) := by decide +kernel
theorem dX1_init_49 : decode cX1_init 49 = .ok (.aload_n 0, 1) := by decide +kernel
theorem dX1_init_50 : decode cX1_init 50 = .ok (.bipush 10, 2) := by decide +kernel
theorem dX1_init_52 : decode cX1_init 52 = .ok (.newarray .int, 2) := by decide +kernel
theorem dX1_init_54 : decode cX1_init 54 = .ok (.putfield 33, 3) := by decide +kernel
theorem dX1_init_57 : decode cX1_init 57 = .ok (.aload_n 0, 1) := by decide +kernel
theorem dX1_init_58 : decode cX1_init 58 = .ok (.bipush 10, 2) := by decide +kernel
theorem dX1_init_60 : decode cX1_init 60 = .ok (.newarray .int, 2) := by decide +kernel
theorem dX1_init_62 : decode cX1_init 62 = .ok (.putfield 36, 3) := by decide +kernel
theorem dX1_init_65 : decode cX1_init 65 = .ok (.aload_n 0, 1) := by decide +kernel
theorem dX1_init_66 : decode cX1_init 66 = .ok (.new 39, 3) := by decide +kernel
theorem dX1_init_69 : decode cX1_init 69 = .ok (.dup, 1) := by decide +kernel
theorem dX1_init_70 : decode cX1_init 70 = .ok (.invokespecial 41, 3) := by decide +kernel
theorem dX1_init_73 : decode cX1_init 73 = .ok (.putfield 42, 3) := by decide +kernel
theorem dX1_init_76 : decode cX1_init 76 = .ok (.aload_n 0, 1) := by decide +kernel
theorem dX1_init_77 : decode cX1_init 77 = .ok (.sipush 1003, 3) := by decide +kernel
theorem dX1_init_80 : decode cX1_init 80 = .ok (.newarray .int, 2) := by decide +kernel
theorem dX1_init_82 : decode cX1_init 82 = .ok (.putfield 46, 3) := by decide +kernel
theorem dX1_init_85 : decode cX1_init 85 = .ok (.aload_n 0, 1) := by decide +kernel
theorem dX1_init_86 : decode cX1_init 86 = .ok (.iconst 3, 1) := by decide +kernel
theorem dX1_init_87 : decode cX1_init 87 = .ok (.newarray .int, 2) := by decide +kernel
theorem dX1_init_89 : decode cX1_init 89 = .ok (.putfield 49, 3) := by decide +kernel
theorem dX1_init_92 : decode cX1_init 92 = .ok (.aload_n 0, 1) := by decide +kernel
theorem dX1_init_93 : decode cX1_init 93 = .ok (.iconst 3, 1) := by decide +kernel
theorem dX1_init_94 : decode cX1_init 94 = .ok (.newarray .int, 2) := by decide +kernel
theorem dX1_init_96 : decode cX1_init 96 = .ok (.putfield 52, 3) := by decide +kernel
theorem dX1_init_99 : decode cX1_init 99 = .ok (.return_, 1) := by decide +kernel
theorem dX1_clear_0 : decode cX1_clear 0 = .ok (.aload_n 0, 1) := by decide +kernel
theorem dX1_clear_1 : decode cX1_clear 1 = .ok (.iconst 0, 1) := by decide +kernel
theorem dX1_clear_2 : decode cX1_clear 2 = .ok (.putfield 55, 3) := by decide +kernel
theorem dX1_clear_5 : decode cX1_clear 5 = .ok (.aload_n 0, 1) := by decide +kernel
theorem dX1_clear_6 : decode cX1_clear 6 = .ok (.iconst 0, 1) := by decide +kernel
theorem dX1_clear_7 : decode cX1_clear 7 = .ok (.putfield 59, 3) := by decide +kernel
theorem dX1_clear_10 : decode cX1_clear 10 = .ok (.aload_n 0, 1) := by decide +kernel
theorem dX1_clear_11 : decode cX1_clear 11 = .ok (.iconst 0, 1) := by decide +kernel
theorem dX1_clear_12 : decode cX1_clear 12 = .ok (.putfield 62, 3) := by decide +kernel
theorem dX1_clear_15 : decode cX1_clear 15 = .ok (.aload_n 0, 1) := by decide +kernel
theorem dX1_clear_16 : decode cX1_clear 16 = .ok (.getfield 42, 3) := by decide +kernel
theorem dX1_clear_19 : decode cX1_clear 19 = .ok (.iconst 0, 1) := by decide +kernel
theorem dX1_clear_20 : decode cX1_clear 20 = .ok (.putfield 65, 3) := by decide +kernel
theorem dX1_clear_23 : decode cX1_clear 23 = .ok (.aload_n 0, 1) := by decide +kernel
theorem dX1_clear_24 : decode cX1_clear 24 = .ok (.getfield 49, 3) := by decide +kernel
theorem dX1_clear_27 : decode cX1_clear 27 = .ok (.iconst 0, 1) := by decide +kernel
theorem dX1_clear_28 : decode cX1_clear 28 = .ok (.invokestatic 68, 3) := by decide +kernel
theorem dX1_clear_31 : decode cX1_clear 31 = .ok (.aload_n 0, 1) := by decide +kernel
theorem dX1_clear_32 : decode cX1_clear 32 = .ok (.getfield 52, 3) := by decide +kernel
theorem dX1_clear_35 : decode cX1_clear 35 = .ok (.iconst 0, 1) := by decide +kernel
theorem dX1_clear_36 : decode cX1_clear 36 = .ok (.invokestatic 68, 3) := by decide +kernel
theorem dX1_clear_39 : decode cX1_clear 39 = .ok (.aload_n 0, 1) := by decide +kernel
theorem dX1_clear_40 : decode cX1_clear 40 = .ok (.iconst 0, 1) := by decide +kernel
theorem dX1_clear_41 : decode cX1_clear 41 = .ok (.putfield 74, 3) := by decide +kernel
theorem dX1_clear_44 : decode cX1_clear 44 = .ok (.aload_n 0, 1) := by decide +kernel
theorem dX1_clear_45 : decode cX1_clear 45 = .ok (.iconst 0, 1) := by decide +kernel
theorem dX1_clear_46 : decode cX1_clear 46 = .ok (.putfield 77, 3) := by decide +kernel
theorem dX1_clear_49 : decode cX1_clear 49 = .ok (.return_, 1) := by decide +kernel
theorem dX1_addStuff_0 : decode cX1_addStuff 0 = .ok (.aload_n 0, 1) := by decide +kernel
theorem dX1_addStuff_1 : decode cX1_addStuff 1 = .ok (.getfield 55, 3) := by decide +kernel
theorem dX1_addStuff_4 : decode cX1_addStuff 4 = .ok (.iconst 5, 1) := by decide +kernel
theorem dX1_addStuff_5 : decode cX1_addStuff 5 = .ok (.if_icmp .ge 44, 3) := by decide +kernel
theorem dX1_addStuff_8 : decode cX1_addStuff 8 = .ok (.aload_n 0, 1) := by decide +kernel
theorem dX1_addStuff_9 : decode cX1_addStuff 9 = .ok (.getfield 11, 3) := by decide +kernel
theorem dX1_addStuff_12 : decode cX1_addStuff 12 = .ok (.aload_n 0, 1) := by decide +kernel
theorem dX1_addStuff_13 : decode cX1_addStuff 13 = .ok (.getfield 55, 3) := by decide +kernel
theorem dX1_addStuff_16 : decode cX1_addStuff 16 = .ok (.lload_n 1, 1) := by decide +kernel
theorem dX1_addStuff_17 : decode cX1_addStuff 17 = .ok (.lastore, 1) := by decide +kernel
theorem dX1_addStuff_18 : decode cX1_addStuff 18 = .ok (.aload_n 0, 1) := by decide +kernel
theorem dX1_addStuff_19 : decode cX1_addStuff 19 = .ok (.getfield 20, 3) := by decide +kernel
theorem dX1_addStuff_22 : decode cX1_addStuff 22 = .ok (.aload_n 0, 1) := by decide +kernel
theorem dX1_addStuff_23 : decode cX1_addStuff 23 = .ok (.getfield 55, 3) := by decide +kernel
theorem dX1_addStuff_26 : decode cX1_addStuff 26 = .ok (.iload_n 3, 1) := by decide +kernel
theorem dX1_addStuff_27 : decode cX1_addStuff 27 = .ok (.iastore, 1) := by decide +kernel
theorem dX1_addStuff_28 : decode cX1_addStuff 28 = .ok (.aload_n 0, 1) := by decide +kernel
theorem dX1_addStuff_29 : decode cX1_addStuff 29 = .ok (.getfield 24, 3) := by decide +kernel
theorem dX1_addStuff_32 : decode cX1_addStuff 32 = .ok (.aload_n 0, 1) := by decide +kernel
theorem dX1_addStuff_33 : decode cX1_addStuff 33 = .ok (.getfield 55, 3) := by decide +kernel
theorem dX1_addStuff_36 : decode cX1_addStuff 36 = .ok (.iload 4, 2) := by decide +kernel
theorem dX1_addStuff_38 : decode cX1_addStuff 38 = .ok (.iastore, 1) := by decide +kernel
theorem dX1_addStuff_39 : decode cX1_addStuff 39 = .ok (.aload_n 0, 1) := by decide +kernel
theorem dX1_addStuff_40 : decode cX1_addStuff 40 = .ok (.dup, 1) := by decide +kernel
theorem dX1_addStuff_41 : decode cX1_addStuff 41 = .ok (.getfield 55, 3) := by decide +kernel
theorem dX1_addStuff_44 : decode cX1_addStuff 44 = .ok (.iconst 1, 1) := by decide +kernel
theorem dX1_addStuff_45 : decode cX1_addStuff 45 = .ok (.iadd, 1) := by decide +kernel
theorem dX1_addStuff_46 : decode cX1_addStuff 46 = .ok (.putfield 55, 3) := by decide +kernel
theorem dX1_addStuff_49 : decode cX1_addStuff 49 = .ok (.return_, 1) := by decide +kernel
theorem dX1_addPlace_0 : decode cX1_addPlace 0 = .ok (.aload_n 0, 1) := by decide +kernel
theorem dX1_addPlace_1 : decode cX1_addPlace 1 = .ok (.getfield 59, 3) := by decide +kernel
theorem dX1_addPlace_4 : decode cX1_addPlace 4 = .ok (.bipush 7, 2) := by decide +kernel
theorem dX1_addPlace_6 : decode cX1_addPlace 6 = .ok (.if_icmp .ge 23, 3) := by decide +kernel
theorem dX1_addPlace_9 : decode cX1_addPlace 9 = .ok (.aload_n 0, 1) := by decide +kernel
theorem dX1_addPlace_10 : decode cX1_addPlace 10 = .ok (.getfield 17, 3) := by decide +kernel
theorem dX1_addPlace_13 : decode cX1_addPlace 13 = .ok (.aload_n 0, 1) := by decide +kernel
theorem dX1_addPlace_14 : decode cX1_addPlace 14 = .ok (.getfield 59, 3) := by decide +kernel
theorem dX1_addPlace_17 : decode cX1_addPlace 17 = .ok (.lload_n 1, 1) := by decide +kernel
theorem dX1_addPlace_18 : decode cX1_addPlace 18 = .ok (.lastore, 1) := by decide +kernel
theorem dX1_addPlace_19 : decode cX1_addPlace 19 = .ok (.aload_n 0, 1) := by decide +kernel
theorem dX1_addPlace_20 : decode cX1_addPlace 20 = .ok (.dup, 1) := by decide +kernel
theorem dX1_addPlace_21 : decode cX1_addPlace 21 = .ok (.getfield 59, 3) := by decide +kernel
theorem dX1_addPlace_24 : decode cX1_addPlace 24 = .ok (.iconst 1, 1) := by decide +kernel
theorem dX1_addPlace_25 : decode cX1_addPlace 25 = .ok (.iadd, 1) := by decide +kernel
theorem dX1_addPlace_26 : decode cX1_addPlace 26 = .ok (.putfield 59, 3) := by decide +kernel
theorem dX1_addPlace_29 : decode cX1_addPlace 29 = .ok (.return_, 1) := by decide +kernel
theorem dX1_addRoad_0 : decode cX1_addRoad 0 = .ok (.aload_n 0, 1) := by decide +kernel
theorem dX1_addRoad_1 : decode cX1_addRoad 1 = .ok (.getfield 62, 3) := by decide +kernel
theorem dX1_addRoad_4 : decode cX1_addRoad 4 = .ok (.bipush 10, 2) := by decide +kernel
theorem dX1_addRoad_6 : decode cX1_addRoad 6 = .ok (.if_icmp .ge 54, 3) := by decide +kernel
theorem dX1_addRoad_9 : decode cX1_addRoad 9 = .ok (.aload_n 0, 1) := by decide +kernel
theorem dX1_addRoad_10 : decode cX1_addRoad 10 = .ok (.getfield 27, 3) := by decide +kernel
theorem dX1_addRoad_13 : decode cX1_addRoad 13 = .ok (.aload_n 0, 1) := by decide +kernel
theorem dX1_addRoad_14 : decode cX1_addRoad 14 = .ok (.getfield 62, 3) := by decide +kernel
theorem dX1_addRoad_17 : decode cX1_addRoad 17 = .ok (.iload_n 1, 1) := by decide +kernel
theorem dX1_addRoad_18 : decode cX1_addRoad 18 = .ok (.iastore, 1) := by decide +kernel
theorem dX1_addRoad_19 : decode cX1_addRoad 19 = .ok (.aload_n 0, 1) := by decide +kernel
theorem dX1_addRoad_20 : decode cX1_addRoad 20 = .ok (.getfield 30, 3) := by decide +kernel
theorem dX1_addRoad_23 : decode cX1_addRoad 23 = .ok (.aload_n 0, 1) := by decide +kernel
theorem dX1_addRoad_24 : decode cX1_addRoad 24 = .ok (.getfield 62, 3) := by decide +kernel
theorem dX1_addRoad_27 : decode cX1_addRoad 27 = .ok (.iload_n 2, 1) := by decide +kernel
theorem dX1_addRoad_28 : decode cX1_addRoad 28 = .ok (.iastore, 1) := by decide +kernel
theorem dX1_addRoad_29 : decode cX1_addRoad 29 = .ok (.aload_n 0, 1) := by decide +kernel
theorem dX1_addRoad_30 : decode cX1_addRoad 30 = .ok (.getfield 33, 3) := by decide +kernel
theorem dX1_addRoad_33 : decode cX1_addRoad 33 = .ok (.aload_n 0, 1) := by decide +kernel
theorem dX1_addRoad_34 : decode cX1_addRoad 34 = .ok (.getfield 62, 3) := by decide +kernel
theorem dX1_addRoad_37 : decode cX1_addRoad 37 = .ok (.iload_n 3, 1) := by decide +kernel
theorem dX1_addRoad_38 : decode cX1_addRoad 38 = .ok (.iastore, 1) := by decide +kernel
theorem dX1_addRoad_39 : decode cX1_addRoad 39 = .ok (.aload_n 0, 1) := by decide +kernel
theorem dX1_addRoad_40 : decode cX1_addRoad 40 = .ok (.getfield 36, 3) := by decide +kernel
theorem dX1_addRoad_43 : decode cX1_addRoad 43 = .ok (.aload_n 0, 1) := by decide +kernel
theorem dX1_addRoad_44 : decode cX1_addRoad 44 = .ok (.getfield 62, 3) := by decide +kernel
theorem dX1_addRoad_47 : decode cX1_addRoad 47 = .ok (.iload 4, 2) := by decide +kernel
theorem dX1_addRoad_49 : decode cX1_addRoad 49 = .ok (.iastore, 1) := by decide +kernel
theorem dX1_addRoad_50 : decode cX1_addRoad 50 = .ok (.aload_n 0, 1) := by decide +kernel
theorem dX1_addRoad_51 : decode cX1_addRoad 51 = .ok (.dup, 1) := by decide +kernel
theorem dX1_addRoad_52 : decode cX1_addRoad 52 = .ok (.getfield 62, 3) := by decide +kernel
theorem dX1_addRoad_55 : decode cX1_addRoad 55 = .ok (.iconst 1, 1) := by decide +kernel
theorem dX1_addRoad_56 : decode cX1_addRoad 56 = .ok (.iadd, 1) := by decide +kernel
theorem dX1_addRoad_57 : decode cX1_addRoad 57 = .ok (.putfield 62, 3) := by decide +kernel
theorem dX1_addRoad_60 : decode cX1_addRoad 60 = .ok (.return_, 1) := by decide +kernel
theorem dX1_stuffNamed_0 : decode cX1_stuffNamed 0 = .ok (.aload_n 0, 1) := by decide +kernel
theorem dX1_stuffNamed_1 : decode cX1_stuffNamed 1 = .ok (.getfield 11, 3) := by decide +kernel
theorem dX1_stuffNamed_4 : decode cX1_stuffNamed 4 = .ok (.aload_n 0, 1) := by decide +kernel
theorem dX1_stuffNamed_5 : decode cX1_stuffNamed 5 = .ok (.getfield 55, 3) := by decide +kernel
theorem dX1_stuffNamed_8 : decode cX1_stuffNamed 8 = .ok (.lload_n 1, 1) := by decide +kernel
theorem dX1_stuffNamed_9 : decode cX1_stuffNamed 9 = .ok (.invokestatic 81, 3) := by decide +kernel
theorem dX1_stuffNamed_12 : decode cX1_stuffNamed 12 = .ok (.ireturn, 1) := by decide +kernel
theorem dX1_placeNamed_0 : decode cX1_placeNamed 0 = .ok (.aload_n 0, 1) := by decide +kernel
theorem dX1_placeNamed_1 : decode cX1_placeNamed 1 = .ok (.getfield 17, 3) := by decide +kernel
theorem dX1_placeNamed_4 : decode cX1_placeNamed 4 = .ok (.aload_n 0, 1) := by decide +kernel
theorem dX1_placeNamed_5 : decode cX1_placeNamed 5 = .ok (.getfield 59, 3) := by decide +kernel
theorem dX1_placeNamed_8 : decode cX1_placeNamed 8 = .ok (.lload_n 1, 1) := by decide +kernel
theorem dX1_placeNamed_9 : decode cX1_placeNamed 9 = .ok (.invokestatic 81, 3) := by decide +kernel
theorem dX1_placeNamed_12 : decode cX1_placeNamed 12 = .ok (.ireturn, 1) := by decide +kernel
theorem dX1_numberOf_0 : decode cX1_numberOf 0 = .ok (.iconst 0, 1) := by decide +kernel
theorem dX1_numberOf_1 : decode cX1_numberOf 1 = .ok (.istore 4, 2) := by decide +kernel
theorem dX1_numberOf_3 : decode cX1_numberOf 3 = .ok (.iload 4, 2) := by decide +kernel
theorem dX1_numberOf_5 : decode cX1_numberOf 5 = .ok (.iload_n 1, 1) := by decide +kernel
theorem dX1_numberOf_6 : decode cX1_numberOf 6 = .ok (.if_icmp .ge 28, 3) := by decide +kernel
theorem dX1_numberOf_9 : decode cX1_numberOf 9 = .ok (.iload 4, 2) := by decide +kernel
theorem dX1_numberOf_11 : decode cX1_numberOf 11 = .ok (.aload_n 0, 1) := by decide +kernel
theorem dX1_numberOf_12 : decode cX1_numberOf 12 = .ok (.arraylength, 1) := by decide +kernel
theorem dX1_numberOf_13 : decode cX1_numberOf 13 = .ok (.if_icmp .ge 21, 3) := by decide +kernel
theorem dX1_numberOf_16 : decode cX1_numberOf 16 = .ok (.aload_n 0, 1) := by decide +kernel
theorem dX1_numberOf_17 : decode cX1_numberOf 17 = .ok (.iload 4, 2) := by decide +kernel
theorem dX1_numberOf_19 : decode cX1_numberOf 19 = .ok (.laload, 1) := by decide +kernel
theorem dX1_numberOf_20 : decode cX1_numberOf 20 = .ok (.lload_n 2, 1) := by decide +kernel
theorem dX1_numberOf_21 : decode cX1_numberOf 21 = .ok (.lcmp, 1) := by decide +kernel
theorem dX1_numberOf_22 : decode cX1_numberOf 22 = .ok (.ifCond .ne 6, 3) := by decide +kernel
theorem dX1_numberOf_25 : decode cX1_numberOf 25 = .ok (.iload 4, 2) := by decide +kernel
theorem dX1_numberOf_27 : decode cX1_numberOf 27 = .ok (.ireturn, 1) := by decide +kernel
theorem dX1_numberOf_28 : decode cX1_numberOf 28 = .ok (.iinc 4 1, 3) := by decide +kernel
theorem dX1_numberOf_31 : decode cX1_numberOf 31 = .ok (.goto (-28), 3) := by decide +kernel
theorem dX1_numberOf_34 : decode cX1_numberOf 34 = .ok (.iconst (-1), 1) := by decide +kernel
theorem dX1_numberOf_35 : decode cX1_numberOf 35 = .ok (.ireturn, 1) := by decide +kernel
theorem dX1_hasLaw_0 : decode cX1_hasLaw 0 = .ok (.aload_n 0, 1) := by decide +kernel
theorem dX1_hasLaw_1 : decode cX1_hasLaw 1 = .ok (.getfield 52, 3) := by decide +kernel
theorem dX1_hasLaw_4 : decode cX1_hasLaw 4 = .ok (.iload_n 1, 1) := by decide +kernel
theorem dX1_hasLaw_5 : decode cX1_hasLaw 5 = .ok (.iaload, 1) := by decide +kernel
theorem dX1_hasLaw_6 : decode cX1_hasLaw 6 = .ok (.aload_n 0, 1) := by decide +kernel
theorem dX1_hasLaw_7 : decode cX1_hasLaw 7 = .ok (.getfield 49, 3) := by decide +kernel
theorem dX1_hasLaw_10 : decode cX1_hasLaw 10 = .ok (.iload_n 1, 1) := by decide +kernel
theorem dX1_hasLaw_11 : decode cX1_hasLaw 11 = .ok (.iaload, 1) := by decide +kernel
theorem dX1_hasLaw_12 : decode cX1_hasLaw 12 = .ok (.if_icmp .le 7, 3) := by decide +kernel
theorem dX1_hasLaw_15 : decode cX1_hasLaw 15 = .ok (.iconst 1, 1) := by decide +kernel
theorem dX1_hasLaw_16 : decode cX1_hasLaw 16 = .ok (.goto 4, 3) := by decide +kernel
theorem dX1_hasLaw_19 : decode cX1_hasLaw 19 = .ok (.iconst 0, 1) := by decide +kernel
theorem dX1_hasLaw_20 : decode cX1_hasLaw 20 = .ok (.ireturn, 1) := by decide +kernel
theorem dX1_emit_0 : decode cX1_emit 0 = .ok (.aload_n 0, 1) := by decide +kernel
theorem dX1_emit_1 : decode cX1_emit 1 = .ok (.getfield 74, 3) := by decide +kernel
theorem dX1_emit_4 : decode cX1_emit 4 = .ok (.sipush 1003, 3) := by decide +kernel
theorem dX1_emit_7 : decode cX1_emit 7 = .ok (.if_icmp .ge 23, 3) := by decide +kernel
theorem dX1_emit_10 : decode cX1_emit 10 = .ok (.aload_n 0, 1) := by decide +kernel
theorem dX1_emit_11 : decode cX1_emit 11 = .ok (.getfield 46, 3) := by decide +kernel
theorem dX1_emit_14 : decode cX1_emit 14 = .ok (.aload_n 0, 1) := by decide +kernel
theorem dX1_emit_15 : decode cX1_emit 15 = .ok (.getfield 74, 3) := by decide +kernel
theorem dX1_emit_18 : decode cX1_emit 18 = .ok (.iload_n 1, 1) := by decide +kernel
theorem dX1_emit_19 : decode cX1_emit 19 = .ok (.iastore, 1) := by decide +kernel
theorem dX1_emit_20 : decode cX1_emit 20 = .ok (.aload_n 0, 1) := by decide +kernel
theorem dX1_emit_21 : decode cX1_emit 21 = .ok (.dup, 1) := by decide +kernel
theorem dX1_emit_22 : decode cX1_emit 22 = .ok (.getfield 74, 3) := by decide +kernel
theorem dX1_emit_25 : decode cX1_emit 25 = .ok (.iconst 1, 1) := by decide +kernel
theorem dX1_emit_26 : decode cX1_emit 26 = .ok (.iadd, 1) := by decide +kernel
theorem dX1_emit_27 : decode cX1_emit 27 = .ok (.putfield 74, 3) := by decide +kernel
theorem dX1_emit_30 : decode cX1_emit 30 = .ok (.aload_n 0, 1) := by decide +kernel
theorem dX1_emit_31 : decode cX1_emit 31 = .ok (.aload_n 0, 1) := by decide +kernel
theorem dX1_emit_32 : decode cX1_emit 32 = .ok (.getfield 77, 3) := by decide +kernel
theorem dX1_emit_35 : decode cX1_emit 35 = .ok (.ifCond .ne 8, 3) := by decide +kernel
theorem dX1_emit_38 : decode cX1_emit 38 = .ok (.iload_n 1, 1) := by decide +kernel
theorem dX1_emit_39 : decode cX1_emit 39 = .ok (.iconst 4, 1) := by decide +kernel
theorem dX1_emit_40 : decode cX1_emit 40 = .ok (.if_icmp .ne 7, 3) := by decide +kernel
theorem dX1_emit_43 : decode cX1_emit 43 = .ok (.iconst 1, 1) := by decide +kernel
theorem dX1_emit_44 : decode cX1_emit 44 = .ok (.goto 4, 3) := by decide +kernel
theorem dX1_emit_47 : decode cX1_emit 47 = .ok (.iconst 0, 1) := by decide +kernel
theorem dX1_emit_48 : decode cX1_emit 48 = .ok (.putfield 77, 3) := by decide +kernel
theorem dX1_emit_51 : decode cX1_emit 51 = .ok (.return_, 1) := by decide +kernel
theorem dX1_fillLaws_0 : decode cX1_fillLaws 0 = .ok (.aload_n 0, 1) := by decide +kernel
theorem dX1_fillLaws_1 : decode cX1_fillLaws 1 = .ok (.iconst 0, 1) := by decide +kernel
theorem dX1_fillLaws_2 : decode cX1_fillLaws 2 = .ok (.iconst 0, 1) := by decide +kernel
theorem dX1_fillLaws_3 : decode cX1_fillLaws 3 = .ok (.invokevirtual 85, 3) := by decide +kernel
theorem dX1_fillLaws_6 : decode cX1_fillLaws 6 = .ok (.aload_n 0, 1) := by decide +kernel
theorem dX1_fillLaws_7 : decode cX1_fillLaws 7 = .ok (.iconst 1, 1) := by decide +kernel
theorem dX1_fillLaws_8 : decode cX1_fillLaws 8 = .ok (.iconst 1, 1) := by decide +kernel
theorem dX1_fillLaws_9 : decode cX1_fillLaws 9 = .ok (.invokevirtual 85, 3) := by decide +kernel
theorem dX1_fillLaws_12 : decode cX1_fillLaws 12 = .ok (.aload_n 0, 1) := by decide +kernel
theorem dX1_fillLaws_13 : decode cX1_fillLaws 13 = .ok (.iconst 2, 1) := by decide +kernel
theorem dX1_fillLaws_14 : decode cX1_fillLaws 14 = .ok (.bipush 7, 2) := by decide +kernel
theorem dX1_fillLaws_16 : decode cX1_fillLaws 16 = .ok (.invokevirtual 85, 3) := by decide +kernel
theorem dX1_fillLaws_19 : decode cX1_fillLaws 19 = .ok (.return_, 1) := by decide +kernel
theorem dX1_fillLaw_0 : decode cX1_fillLaw 0 = .ok (.aload_n 0, 1) := by decide +kernel
theorem dX1_fillLaw_1 : decode cX1_fillLaw 1 = .ok (.iload_n 1, 1) := by decide +kernel
theorem dX1_fillLaw_2 : decode cX1_fillLaw 2 = .ok (.invokevirtual 89, 3) := by decide +kernel
theorem dX1_fillLaw_5 : decode cX1_fillLaw 5 = .ok (.ifCond .ne 28, 3) := by decide +kernel
theorem dX1_fillLaw_8 : decode cX1_fillLaw 8 = .ok (.aload_n 0, 1) := by decide +kernel
theorem dX1_fillLaw_9 : decode cX1_fillLaw 9 = .ok (.getfield 49, 3) := by decide +kernel
theorem dX1_fillLaw_12 : decode cX1_fillLaw 12 = .ok (.iload_n 1, 1) := by decide +kernel
theorem dX1_fillLaw_13 : decode cX1_fillLaw 13 = .ok (.aload_n 0, 1) := by decide +kernel
theorem dX1_fillLaw_14 : decode cX1_fillLaw 14 = .ok (.getfield 74, 3) := by decide +kernel
theorem dX1_fillLaw_17 : decode cX1_fillLaw 17 = .ok (.iastore, 1) := by decide +kernel
theorem dX1_fillLaw_18 : decode cX1_fillLaw 18 = .ok (.aload_n 0, 1) := by decide +kernel
theorem dX1_fillLaw_19 : decode cX1_fillLaw 19 = .ok (.iload_n 2, 1) := by decide +kernel
theorem dX1_fillLaw_20 : decode cX1_fillLaw 20 = .ok (.invokevirtual 93, 3) := by decide +kernel
theorem dX1_fillLaw_23 : decode cX1_fillLaw 23 = .ok (.aload_n 0, 1) := by decide +kernel
theorem dX1_fillLaw_24 : decode cX1_fillLaw 24 = .ok (.getfield 52, 3) := by decide +kernel
theorem dX1_fillLaw_27 : decode cX1_fillLaw 27 = .ok (.iload_n 1, 1) := by decide +kernel
theorem dX1_fillLaw_28 : decode cX1_fillLaw 28 = .ok (.aload_n 0, 1) := by decide +kernel
theorem dX1_fillLaw_29 : decode cX1_fillLaw 29 = .ok (.getfield 74, 3) := by decide +kernel
theorem dX1_fillLaw_32 : decode cX1_fillLaw 32 = .ok (.iastore, 1) := by decide +kernel
theorem dX1_fillLaw_33 : decode cX1_fillLaw 33 = .ok (.return_, 1) := by decide +kernel
theorem dX1_otherEnd_0 : decode cX1_otherEnd 0 = .ok (.aload_n 0, 1) := by decide +kernel
theorem dX1_otherEnd_1 : decode cX1_otherEnd 1 = .ok (.getfield 27, 3) := by decide +kernel
theorem dX1_otherEnd_4 : decode cX1_otherEnd 4 = .ok (.iload_n 1, 1) := by decide +kernel
theorem dX1_otherEnd_5 : decode cX1_otherEnd 5 = .ok (.iaload, 1) := by decide +kernel
theorem dX1_otherEnd_6 : decode cX1_otherEnd 6 = .ok (.iload_n 2, 1) := by decide +kernel
theorem dX1_otherEnd_7 : decode cX1_otherEnd 7 = .ok (.if_icmp .ne 12, 3) := by decide +kernel
theorem dX1_otherEnd_10 : decode cX1_otherEnd 10 = .ok (.aload_n 0, 1) := by decide +kernel
theorem dX1_otherEnd_11 : decode cX1_otherEnd 11 = .ok (.getfield 30, 3) := by decide +kernel
theorem dX1_otherEnd_14 : decode cX1_otherEnd 14 = .ok (.iload_n 1, 1) := by decide +kernel
theorem dX1_otherEnd_15 : decode cX1_otherEnd 15 = .ok (.iaload, 1) := by decide +kernel
theorem dX1_otherEnd_16 : decode cX1_otherEnd 16 = .ok (.goto 23, 3) := by decide +kernel
theorem dX1_otherEnd_19 : decode cX1_otherEnd 19 = .ok (.aload_n 0, 1) := by decide +kernel
theorem dX1_otherEnd_20 : decode cX1_otherEnd 20 = .ok (.getfield 30, 3) := by decide +kernel
theorem dX1_otherEnd_23 : decode cX1_otherEnd 23 = .ok (.iload_n 1, 1) := by decide +kernel
theorem dX1_otherEnd_24 : decode cX1_otherEnd 24 = .ok (.iaload, 1) := by decide +kernel
theorem dX1_otherEnd_25 : decode cX1_otherEnd 25 = .ok (.iload_n 2, 1) := by decide +kernel
theorem dX1_otherEnd_26 : decode cX1_otherEnd 26 = .ok (.if_icmp .ne 12, 3) := by decide +kernel
theorem dX1_otherEnd_29 : decode cX1_otherEnd 29 = .ok (.aload_n 0, 1) := by decide +kernel
theorem dX1_otherEnd_30 : decode cX1_otherEnd 30 = .ok (.getfield 27, 3) := by decide +kernel
theorem dX1_otherEnd_33 : decode cX1_otherEnd 33 = .ok (.iload_n 1, 1) := by decide +kernel
theorem dX1_otherEnd_34 : decode cX1_otherEnd 34 = .ok (.iaload, 1) := by decide +kernel
theorem dX1_otherEnd_35 : decode cX1_otherEnd 35 = .ok (.goto 4, 3) := by decide +kernel
theorem dX1_otherEnd_38 : decode cX1_otherEnd 38 = .ok (.iconst (-1), 1) := by decide +kernel
theorem dX1_otherEnd_39 : decode cX1_otherEnd 39 = .ok (.ireturn, 1) := by decide +kernel
theorem dX1_take_0 : decode cX1_take 0 = .ok (.aload_n 0, 1) := by decide +kernel
theorem dX1_take_1 : decode cX1_take 1 = .ok (.aload_n 1, 1) := by decide +kernel
theorem dX1_take_2 : decode cX1_take 2 = .ok (.getfield 55, 3) := by decide +kernel
theorem dX1_take_5 : decode cX1_take 5 = .ok (.putfield 55, 3) := by decide +kernel
theorem dX1_take_8 : decode cX1_take 8 = .ok (.aload_n 0, 1) := by decide +kernel
theorem dX1_take_9 : decode cX1_take 9 = .ok (.aload_n 1, 1) := by decide +kernel
theorem dX1_take_10 : decode cX1_take 10 = .ok (.getfield 59, 3) := by decide +kernel
theorem dX1_take_13 : decode cX1_take 13 = .ok (.putfield 59, 3) := by decide +kernel
theorem dX1_take_16 : decode cX1_take 16 = .ok (.aload_n 0, 1) := by decide +kernel
theorem dX1_take_17 : decode cX1_take 17 = .ok (.aload_n 1, 1) := by decide +kernel
theorem dX1_take_18 : decode cX1_take 18 = .ok (.getfield 62, 3) := by decide +kernel
theorem dX1_take_21 : decode cX1_take 21 = .ok (.putfield 62, 3) := by decide +kernel
theorem dX1_take_24 : decode cX1_take 24 = .ok (.aload_n 0, 1) := by decide +kernel
theorem dX1_take_25 : decode cX1_take 25 = .ok (.aload_n 1, 1) := by decide +kernel
theorem dX1_take_26 : decode cX1_take 26 = .ok (.getfield 74, 3) := by decide +kernel
theorem dX1_take_29 : decode cX1_take 29 = .ok (.putfield 74, 3) := by decide +kernel
theorem dX1_take_32 : decode cX1_take 32 = .ok (.aload_n 0, 1) := by decide +kernel
theorem dX1_take_33 : decode cX1_take 33 = .ok (.aload_n 1, 1) := by decide +kernel
theorem dX1_take_34 : decode cX1_take 34 = .ok (.getfield 77, 3) := by decide +kernel
theorem dX1_take_37 : decode cX1_take 37 = .ok (.putfield 77, 3) := by decide +kernel
theorem dX1_take_40 : decode cX1_take 40 = .ok (.aload_n 1, 1) := by decide +kernel
theorem dX1_take_41 : decode cX1_take 41 = .ok (.getfield 20, 3) := by decide +kernel
theorem dX1_take_44 : decode cX1_take 44 = .ok (.iconst 0, 1) := by decide +kernel
theorem dX1_take_45 : decode cX1_take 45 = .ok (.aload_n 0, 1) := by decide +kernel
theorem dX1_take_46 : decode cX1_take 46 = .ok (.getfield 20, 3) := by decide +kernel
theorem dX1_take_49 : decode cX1_take 49 = .ok (.iconst 0, 1) := by decide +kernel
theorem dX1_take_50 : decode cX1_take 50 = .ok (.iconst 5, 1) := by decide +kernel
theorem dX1_take_51 : decode cX1_take 51 = .ok (.invokestatic 97, 3) := by decide +kernel
theorem dX1_take_54 : decode cX1_take 54 = .ok (.aload_n 1, 1) := by decide +kernel
theorem dX1_take_55 : decode cX1_take 55 = .ok (.getfield 24, 3) := by decide +kernel
theorem dX1_take_58 : decode cX1_take 58 = .ok (.iconst 0, 1) := by decide +kernel
theorem dX1_take_59 : decode cX1_take 59 = .ok (.aload_n 0, 1) := by decide +kernel
theorem dX1_take_60 : decode cX1_take 60 = .ok (.getfield 24, 3) := by decide +kernel
theorem dX1_take_63 : decode cX1_take 63 = .ok (.iconst 0, 1) := by decide +kernel
theorem dX1_take_64 : decode cX1_take 64 = .ok (.iconst 5, 1) := by decide +kernel
theorem dX1_take_65 : decode cX1_take 65 = .ok (.invokestatic 97, 3) := by decide +kernel
theorem dX1_take_68 : decode cX1_take 68 = .ok (.aload_n 1, 1) := by decide +kernel
theorem dX1_take_69 : decode cX1_take 69 = .ok (.getfield 27, 3) := by decide +kernel
theorem dX1_take_72 : decode cX1_take 72 = .ok (.iconst 0, 1) := by decide +kernel
theorem dX1_take_73 : decode cX1_take 73 = .ok (.aload_n 0, 1) := by decide +kernel
theorem dX1_take_74 : decode cX1_take 74 = .ok (.getfield 27, 3) := by decide +kernel
theorem dX1_take_77 : decode cX1_take 77 = .ok (.iconst 0, 1) := by decide +kernel
theorem dX1_take_78 : decode cX1_take 78 = .ok (.bipush 10, 2) := by decide +kernel
theorem dX1_take_80 : decode cX1_take 80 = .ok (.invokestatic 97, 3) := by decide +kernel
theorem dX1_take_83 : decode cX1_take 83 = .ok (.aload_n 1, 1) := by decide +kernel
theorem dX1_take_84 : decode cX1_take 84 = .ok (.getfield 30, 3) := by decide +kernel
theorem dX1_take_87 : decode cX1_take 87 = .ok (.iconst 0, 1) := by decide +kernel
theorem dX1_take_88 : decode cX1_take 88 = .ok (.aload_n 0, 1) := by decide +kernel
theorem dX1_take_89 : decode cX1_take 89 = .ok (.getfield 30, 3) := by decide +kernel
theorem dX1_take_92 : decode cX1_take 92 = .ok (.iconst 0, 1) := by decide +kernel
theorem dX1_take_93 : decode cX1_take 93 = .ok (.bipush 10, 2) := by decide +kernel
theorem dX1_take_95 : decode cX1_take 95 = .ok (.invokestatic 97, 3) := by decide +kernel
theorem dX1_take_98 : decode cX1_take 98 = .ok (.aload_n 1, 1) := by decide +kernel
theorem dX1_take_99 : decode cX1_take 99 = .ok (.getfield 33, 3) := by decide +kernel
theorem dX1_take_102 : decode cX1_take 102 = .ok (.iconst 0, 1) := by decide +kernel
theorem dX1_take_103 : decode cX1_take 103 = .ok (.aload_n 0, 1) := by decide +kernel
theorem dX1_take_104 : decode cX1_take 104 = .ok (.getfield 33, 3) := by decide +kernel
theorem dX1_take_107 : decode cX1_take 107 = .ok (.iconst 0, 1) := by decide +kernel
theorem dX1_take_108 : decode cX1_take 108 = .ok (.bipush 10, 2) := by decide +kernel
theorem dX1_take_110 : decode cX1_take 110 = .ok (.invokestatic 97, 3) := by decide +kernel
theorem dX1_take_113 : decode cX1_take 113 = .ok (.aload_n 1, 1) := by decide +kernel
theorem dX1_take_114 : decode cX1_take 114 = .ok (.getfield 36, 3) := by decide +kernel
theorem dX1_take_117 : decode cX1_take 117 = .ok (.iconst 0, 1) := by decide +kernel
theorem dX1_take_118 : decode cX1_take 118 = .ok (.aload_n 0, 1) := by decide +kernel
theorem dX1_take_119 : decode cX1_take 119 = .ok (.getfield 36, 3) := by decide +kernel
theorem dX1_take_122 : decode cX1_take 122 = .ok (.iconst 0, 1) := by decide +kernel
theorem dX1_take_123 : decode cX1_take 123 = .ok (.bipush 10, 2) := by decide +kernel
theorem dX1_take_125 : decode cX1_take 125 = .ok (.invokestatic 97, 3) := by decide +kernel
theorem dX1_take_128 : decode cX1_take 128 = .ok (.aload_n 1, 1) := by decide +kernel
theorem dX1_take_129 : decode cX1_take 129 = .ok (.getfield 46, 3) := by decide +kernel
theorem dX1_take_132 : decode cX1_take 132 = .ok (.iconst 0, 1) := by decide +kernel
theorem dX1_take_133 : decode cX1_take 133 = .ok (.aload_n 0, 1) := by decide +kernel
theorem dX1_take_134 : decode cX1_take 134 = .ok (.getfield 46, 3) := by decide +kernel
theorem dX1_take_137 : decode cX1_take 137 = .ok (.iconst 0, 1) := by decide +kernel
theorem dX1_take_138 : decode cX1_take 138 = .ok (.sipush 1003, 3) := by decide +kernel
theorem dX1_take_141 : decode cX1_take 141 = .ok (.invokestatic 97, 3) := by decide +kernel
theorem dX1_take_144 : decode cX1_take 144 = .ok (.aload_n 1, 1) := by decide +kernel
theorem dX1_take_145 : decode cX1_take 145 = .ok (.getfield 49, 3) := by decide +kernel
theorem dX1_take_148 : decode cX1_take 148 = .ok (.iconst 0, 1) := by decide +kernel
theorem dX1_take_149 : decode cX1_take 149 = .ok (.aload_n 0, 1) := by decide +kernel
theorem dX1_take_150 : decode cX1_take 150 = .ok (.getfield 49, 3) := by decide +kernel
theorem dX1_take_153 : decode cX1_take 153 = .ok (.iconst 0, 1) := by decide +kernel
theorem dX1_take_154 : decode cX1_take 154 = .ok (.iconst 3, 1) := by decide +kernel
theorem dX1_take_155 : decode cX1_take 155 = .ok (.invokestatic 97, 3) := by decide +kernel
theorem dX1_take_158 : decode cX1_take 158 = .ok (.aload_n 1, 1) := by decide +kernel
theorem dX1_take_159 : decode cX1_take 159 = .ok (.getfield 52, 3) := by decide +kernel
theorem dX1_take_162 : decode cX1_take 162 = .ok (.iconst 0, 1) := by decide +kernel
theorem dX1_take_163 : decode cX1_take 163 = .ok (.aload_n 0, 1) := by decide +kernel
theorem dX1_take_164 : decode cX1_take 164 = .ok (.getfield 52, 3) := by decide +kernel
theorem dX1_take_167 : decode cX1_take 167 = .ok (.iconst 0, 1) := by decide +kernel
theorem dX1_take_168 : decode cX1_take 168 = .ok (.iconst 3, 1) := by decide +kernel
theorem dX1_take_169 : decode cX1_take 169 = .ok (.invokestatic 97, 3) := by decide +kernel
theorem dX1_take_172 : decode cX1_take 172 = .ok (.aload_n 0, 1) := by decide +kernel
theorem dX1_take_173 : decode cX1_take 173 = .ok (.getfield 42, 3) := by decide +kernel
theorem dX1_take_176 : decode cX1_take 176 = .ok (.aload_n 1, 1) := by decide +kernel
theorem dX1_take_177 : decode cX1_take 177 = .ok (.getfield 42, 3) := by decide +kernel
theorem dX1_take_180 : decode cX1_take 180 = .ok (.invokevirtual 103, 3) := by decide +kernel
theorem dX1_take_183 : decode cX1_take 183 = .ok (.return_, 1) := by decide +kernel
theorem dX2_init_0 : decode cX2_init 0 = .ok (.aload_n 0, 1) := by decide +kernel
theorem dX2_init_1 : decode cX2_init 1 = .ok (.invokespecial 3, 3) := by decide +kernel
theorem dX2_init_4 : decode cX2_init 4 = .ok (.aload_n 0, 1) := by decide +kernel
theorem dX2_init_5 : decode cX2_init 5 = .ok (.getstatic 9, 3) := by decide +kernel
theorem dX2_init_8 : decode cX2_init 8 = .ok (.putfield 15, 3) := by decide +kernel
theorem dX2_init_11 : decode cX2_init 11 = .ok (.aload_n 0, 1) := by decide +kernel
theorem dX2_init_12 : decode cX2_init 12 = .ok (.aload_n 1, 1) := by decide +kernel
theorem dX2_init_13 : decode cX2_init 13 = .ok (.putfield 20, 3) := by decide +kernel
theorem dX2_init_16 : decode cX2_init 16 = .ok (.aload_n 0, 1) := by decide +kernel
theorem dX2_init_17 : decode cX2_init 17 = .ok (.aload_n 2, 1) := by decide +kernel
theorem dX2_init_18 : decode cX2_init 18 = .ok (.putfield 24, 3) := by decide +kernel
theorem dX2_init_21 : decode cX2_init 21 = .ok (.return_, 1) := by decide +kernel
theorem dX2_read_0 : decode cX2_read 0 = .ok (.aload_n 0, 1) := by decide +kernel
theorem dX2_read_1 : decode cX2_read 1 = .ok (.iconst 0, 1) := by decide +kernel
theorem dX2_read_2 : decode cX2_read 2 = .ok (.putfield 28, 3) := by decide +kernel
theorem dX2_read_5 : decode cX2_read 5 = .ok (.aload_n 0, 1) := by decide +kernel
theorem dX2_read_6 : decode cX2_read 6 = .ok (.iconst 0, 1) := by decide +kernel
theorem dX2_read_7 : decode cX2_read 7 = .ok (.putfield 32, 3) := by decide +kernel
theorem dX2_read_10 : decode cX2_read 10 = .ok (.aload_n 0, 1) := by decide +kernel
theorem dX2_read_11 : decode cX2_read 11 = .ok (.aload_n 0, 1) := by decide +kernel
theorem dX2_read_12 : decode cX2_read 12 = .ok (.getfield 20, 3) := by decide +kernel
theorem dX2_read_15 : decode cX2_read 15 = .ok (.getfield 35, 3) := by decide +kernel
theorem dX2_read_18 : decode cX2_read 18 = .ok (.iconst 0, 1) := by decide +kernel
theorem dX2_read_19 : decode cX2_read 19 = .ok (.aaload, 1) := by decide +kernel
theorem dX2_read_20 : decode cX2_read 20 = .ok (.putfield 15, 3) := by decide +kernel
theorem dX2_read_23 : decode cX2_read 23 = .ok (.aload_n 0, 1) := by decide +kernel
theorem dX2_read_24 : decode cX2_read 24 = .ok (.getfield 24, 3) := by decide +kernel
theorem dX2_read_27 : decode cX2_read 27 = .ok (.invokevirtual 41, 3) := by decide +kernel
theorem dX2_read_30 : decode cX2_read 30 = .ok (.iconst 0, 1) := by decide +kernel
theorem dX2_read_31 : decode cX2_read 31 = .ok (.istore_n 1, 1) := by decide +kernel
theorem dX2_read_32 : decode cX2_read 32 = .ok (.iload_n 1, 1) := by decide +kernel
theorem dX2_read_33 : decode cX2_read 33 = .ok (.sipush 1001, 3) := by decide +kernel
theorem dX2_read_36 : decode cX2_read 36 = .ok (.if_icmp .ge 30, 3) := by decide +kernel
theorem dX2_read_39 : decode cX2_read 39 = .ok (.aload_n 0, 1) := by decide +kernel
theorem dX2_read_40 : decode cX2_read 40 = .ok (.getfield 28, 3) := by decide +kernel
theorem dX2_read_43 : decode cX2_read 43 = .ok (.ifCond .ne 23, 3) := by decide +kernel
theorem dX2_read_46 : decode cX2_read 46 = .ok (.aload_n 0, 1) := by decide +kernel
theorem dX2_read_47 : decode cX2_read 47 = .ok (.getfield 15, 3) := by decide +kernel
theorem dX2_read_50 : decode cX2_read 50 = .ok (.getstatic 9, 3) := by decide +kernel
theorem dX2_read_53 : decode cX2_read 53 = .ok (.if_acmp .eq 13, 3) := by decide +kernel
theorem dX2_read_56 : decode cX2_read 56 = .ok (.aload_n 0, 1) := by decide +kernel
theorem dX2_read_57 : decode cX2_read 57 = .ok (.invokevirtual 46, 3) := by decide +kernel
theorem dX2_read_60 : decode cX2_read 60 = .ok (.iinc 1 1, 3) := by decide +kernel
theorem dX2_read_63 : decode cX2_read 63 = .ok (.goto (-31), 3) := by decide +kernel
theorem dX2_read_66 : decode cX2_read 66 = .ok (.aload_n 0, 1) := by decide +kernel
theorem dX2_read_67 : decode cX2_read 67 = .ok (.getfield 24, 3) := by decide +kernel
theorem dX2_read_70 : decode cX2_read 70 = .ok (.invokevirtual 49, 3) := by decide +kernel
theorem dX2_read_73 : decode cX2_read 73 = .ok (.aload_n 0, 1) := by decide +kernel
theorem dX2_read_74 : decode cX2_read 74 = .ok (.getfield 28, 3) := by decide +kernel
theorem dX2_read_77 : decode cX2_read 77 = .ok (.ireturn, 1) := by decide +kernel
theorem dX2_readLine_0 : decode cX2_readLine 0 = .ok (.getstatic 52, 3) := by decide +kernel
theorem dX2_readLine_3 : decode cX2_readLine 3 = .ok (.aload_n 0, 1) := by decide +kernel
theorem dX2_readLine_4 : decode cX2_readLine 4 = .ok (.getfield 15, 3) := by decide +kernel
theorem dX2_readLine_7 : decode cX2_readLine 7 = .ok (.invokevirtual 58, 3) := by decide +kernel
theorem dX2_readLine_10 : decode cX2_readLine 10 = .ok (.iaload, 1) := by decide +kernel
theorem dX2_readLine_11 : decode cX2_readLine 11 = .ok (.tableswitch 93 1 7 #[41, 48, 55, 62, 69, 77, 85], 41) := by decide +kernel
theorem dX2_readLine_52 : decode cX2_readLine 52 = .ok (.aload_n 0, 1) := by decide +kernel
theorem dX2_readLine_53 : decode cX2_readLine 53 = .ok (.invokevirtual 62, 3) := by decide +kernel
theorem dX2_readLine_56 : decode cX2_readLine 56 = .ok (.goto 53, 3) := by decide +kernel
theorem dX2_readLine_59 : decode cX2_readLine 59 = .ok (.aload_n 0, 1) := by decide +kernel
theorem dX2_readLine_60 : decode cX2_readLine 60 = .ok (.invokevirtual 65, 3) := by decide +kernel
theorem dX2_readLine_63 : decode cX2_readLine 63 = .ok (.goto 46, 3) := by decide +kernel
theorem dX2_readLine_66 : decode cX2_readLine 66 = .ok (.aload_n 0, 1) := by decide +kernel
theorem dX2_readLine_67 : decode cX2_readLine 67 = .ok (.invokevirtual 68, 3) := by decide +kernel
theorem dX2_readLine_70 : decode cX2_readLine 70 = .ok (.goto 39, 3) := by decide +kernel
theorem dX2_readLine_73 : decode cX2_readLine 73 = .ok (.aload_n 0, 1) := by decide +kernel
theorem dX2_readLine_74 : decode cX2_readLine 74 = .ok (.invokevirtual 71, 3) := by decide +kernel
theorem dX2_readLine_77 : decode cX2_readLine 77 = .ok (.goto 32, 3) := by decide +kernel
theorem dX2_readLine_80 : decode cX2_readLine 80 = .ok (.aload_n 0, 1) := by decide +kernel
theorem dX2_readLine_81 : decode cX2_readLine 81 = .ok (.iconst 0, 1) := by decide +kernel
theorem dX2_readLine_82 : decode cX2_readLine 82 = .ok (.invokevirtual 74, 3) := by decide +kernel
theorem dX2_readLine_85 : decode cX2_readLine 85 = .ok (.goto 24, 3) := by decide +kernel
theorem dX2_readLine_88 : decode cX2_readLine 88 = .ok (.aload_n 0, 1) := by decide +kernel
theorem dX2_readLine_89 : decode cX2_readLine 89 = .ok (.iconst 1, 1) := by decide +kernel
theorem dX2_readLine_90 : decode cX2_readLine 90 = .ok (.invokevirtual 74, 3) := by decide +kernel
theorem dX2_readLine_93 : decode cX2_readLine 93 = .ok (.goto 16, 3) := by decide +kernel
theorem dX2_readLine_96 : decode cX2_readLine 96 = .ok (.aload_n 0, 1) := by decide +kernel
theorem dX2_readLine_97 : decode cX2_readLine 97 = .ok (.iconst 2, 1) := by decide +kernel
theorem dX2_readLine_98 : decode cX2_readLine 98 = .ok (.invokevirtual 74, 3) := by decide +kernel
theorem dX2_readLine_101 : decode cX2_readLine 101 = .ok (.goto 8, 3) := by decide +kernel
theorem dX2_readLine_104 : decode cX2_readLine 104 = .ok (.aload_n 0, 1) := by decide +kernel
theorem dX2_readLine_105 : decode cX2_readLine 105 = .ok (.iconst 1, 1) := by decide +kernel
theorem dX2_readLine_106 : decode cX2_readLine 106 = .ok (.invokevirtual 78, 3) := by decide +kernel
theorem dX2_readLine_109 : decode cX2_readLine 109 = .ok (.return_, 1) := by decide +kernel
theorem dX2_readStuff_0 : decode cX2_readStuff 0 = .ok (.aload_n 0, 1) := by decide +kernel
theorem dX2_readStuff_1 : decode cX2_readStuff 1 = .ok (.aload_n 0, 1) := by decide +kernel
theorem dX2_readStuff_2 : decode cX2_readStuff 2 = .ok (.getfield 24, 3) := by decide +kernel
theorem dX2_readStuff_5 : decode cX2_readStuff 5 = .ok (.getfield 81, 3) := by decide +kernel
theorem dX2_readStuff_8 : decode cX2_readStuff 8 = .ok (.iconst 5, 1) := by decide +kernel
theorem dX2_readStuff_9 : decode cX2_readStuff 9 = .ok (.if_icmp .ge 7, 3) := by decide +kernel
theorem dX2_readStuff_12 : decode cX2_readStuff 12 = .ok (.iconst 1, 1) := by decide +kernel
theorem dX2_readStuff_13 : decode cX2_readStuff 13 = .ok (.goto 4, 3) := by decide +kernel
theorem dX2_readStuff_16 : decode cX2_readStuff 16 = .ok (.iconst 0, 1) := by decide +kernel
theorem dX2_readStuff_17 : decode cX2_readStuff 17 = .ok (.iconst 5, 1) := by decide +kernel
theorem dX2_readStuff_18 : decode cX2_readStuff 18 = .ok (.invokevirtual 84, 3) := by decide +kernel
theorem dX2_readStuff_21 : decode cX2_readStuff 21 = .ok (.aload_n 0, 1) := by decide +kernel
theorem dX2_readStuff_22 : decode cX2_readStuff 22 = .ok (.invokevirtual 88, 3) := by decide +kernel
theorem dX2_readStuff_25 : decode cX2_readStuff 25 = .ok (.lstore_n 1, 1) := by decide +kernel
theorem dX2_readStuff_26 : decode cX2_readStuff 26 = .ok (.aload_n 0, 1) := by decide +kernel
theorem dX2_readStuff_27 : decode cX2_readStuff 27 = .ok (.getstatic 92, 3) := by decide +kernel
theorem dX2_readStuff_30 : decode cX2_readStuff 30 = .ok (.invokevirtual 95, 3) := by decide +kernel
theorem dX2_readStuff_33 : decode cX2_readStuff 33 = .ok (.aload_n 0, 1) := by decide +kernel
theorem dX2_readStuff_34 : decode cX2_readStuff 34 = .ok (.iconst 0, 1) := by decide +kernel
theorem dX2_readStuff_35 : decode cX2_readStuff 35 = .ok (.bipush 9, 2) := by decide +kernel
theorem dX2_readStuff_37 : decode cX2_readStuff 37 = .ok (.invokevirtual 99, 3) := by decide +kernel
theorem dX2_readStuff_40 : decode cX2_readStuff 40 = .ok (.istore_n 3, 1) := by decide +kernel
theorem dX2_readStuff_41 : decode cX2_readStuff 41 = .ok (.aload_n 0, 1) := by decide +kernel
theorem dX2_readStuff_42 : decode cX2_readStuff 42 = .ok (.getstatic 103, 3) := by decide +kernel
theorem dX2_readStuff_45 : decode cX2_readStuff 45 = .ok (.invokevirtual 95, 3) := by decide +kernel
theorem dX2_readStuff_48 : decode cX2_readStuff 48 = .ok (.aload_n 0, 1) := by decide +kernel
theorem dX2_readStuff_49 : decode cX2_readStuff 49 = .ok (.iconst 0, 1) := by decide +kernel
theorem dX2_readStuff_50 : decode cX2_readStuff 50 = .ok (.bipush 9, 2) := by decide +kernel
theorem dX2_readStuff_52 : decode cX2_readStuff 52 = .ok (.invokevirtual 99, 3) := by decide +kernel
theorem dX2_readStuff_55 : decode cX2_readStuff 55 = .ok (.istore 4, 2) := by decide +kernel
theorem dX2_readStuff_57 : decode cX2_readStuff 57 = .ok (.aload_n 0, 1) := by decide +kernel
theorem dX2_readStuff_58 : decode cX2_readStuff 58 = .ok (.getstatic 106, 3) := by decide +kernel
theorem dX2_readStuff_61 : decode cX2_readStuff 61 = .ok (.invokevirtual 95, 3) := by decide +kernel
theorem dX2_readStuff_64 : decode cX2_readStuff 64 = .ok (.aload_n 0, 1) := by decide +kernel
theorem dX2_readStuff_65 : decode cX2_readStuff 65 = .ok (.getfield 28, 3) := by decide +kernel
theorem dX2_readStuff_68 : decode cX2_readStuff 68 = .ok (.ifCond .ne 14, 3) := by decide +kernel
theorem dX2_readStuff_71 : decode cX2_readStuff 71 = .ok (.aload_n 0, 1) := by decide +kernel
theorem dX2_readStuff_72 : decode cX2_readStuff 72 = .ok (.getfield 24, 3) := by decide +kernel
theorem dX2_readStuff_75 : decode cX2_readStuff 75 = .ok (.lload_n 1, 1) := by decide +kernel
theorem dX2_readStuff_76 : decode cX2_readStuff 76 = .ok (.iload_n 3, 1) := by decide +kernel
theorem dX2_readStuff_77 : decode cX2_readStuff 77 = .ok (.iload 4, 2) := by decide +kernel
theorem dX2_readStuff_79 : decode cX2_readStuff 79 = .ok (.invokevirtual 109, 3) := by decide +kernel
theorem dX2_readStuff_82 : decode cX2_readStuff 82 = .ok (.return_, 1) := by decide +kernel
theorem dX2_readPlace_0 : decode cX2_readPlace 0 = .ok (.aload_n 0, 1) := by decide +kernel
theorem dX2_readPlace_1 : decode cX2_readPlace 1 = .ok (.aload_n 0, 1) := by decide +kernel
theorem dX2_readPlace_2 : decode cX2_readPlace 2 = .ok (.getfield 24, 3) := by decide +kernel
theorem dX2_readPlace_5 : decode cX2_readPlace 5 = .ok (.getfield 113, 3) := by decide +kernel
theorem dX2_readPlace_8 : decode cX2_readPlace 8 = .ok (.bipush 7, 2) := by decide +kernel
theorem dX2_readPlace_10 : decode cX2_readPlace 10 = .ok (.if_icmp .ge 7, 3) := by decide +kernel
theorem dX2_readPlace_13 : decode cX2_readPlace 13 = .ok (.iconst 1, 1) := by decide +kernel
theorem dX2_readPlace_14 : decode cX2_readPlace 14 = .ok (.goto 4, 3) := by decide +kernel
theorem dX2_readPlace_17 : decode cX2_readPlace 17 = .ok (.iconst 0, 1) := by decide +kernel
theorem dX2_readPlace_18 : decode cX2_readPlace 18 = .ok (.iconst 5, 1) := by decide +kernel
theorem dX2_readPlace_19 : decode cX2_readPlace 19 = .ok (.invokevirtual 84, 3) := by decide +kernel
theorem dX2_readPlace_22 : decode cX2_readPlace 22 = .ok (.aload_n 0, 1) := by decide +kernel
theorem dX2_readPlace_23 : decode cX2_readPlace 23 = .ok (.invokevirtual 88, 3) := by decide +kernel
theorem dX2_readPlace_26 : decode cX2_readPlace 26 = .ok (.lstore_n 1, 1) := by decide +kernel
theorem dX2_readPlace_27 : decode cX2_readPlace 27 = .ok (.aload_n 0, 1) := by decide +kernel
theorem dX2_readPlace_28 : decode cX2_readPlace 28 = .ok (.getstatic 106, 3) := by decide +kernel
theorem dX2_readPlace_31 : decode cX2_readPlace 31 = .ok (.invokevirtual 95, 3) := by decide +kernel
theorem dX2_readPlace_34 : decode cX2_readPlace 34 = .ok (.aload_n 0, 1) := by decide +kernel
theorem dX2_readPlace_35 : decode cX2_readPlace 35 = .ok (.getfield 28, 3) := by decide +kernel
theorem dX2_readPlace_38 : decode cX2_readPlace 38 = .ok (.ifCond .ne 11, 3) := by decide +kernel
theorem dX2_readPlace_41 : decode cX2_readPlace 41 = .ok (.aload_n 0, 1) := by decide +kernel
theorem dX2_readPlace_42 : decode cX2_readPlace 42 = .ok (.getfield 24, 3) := by decide +kernel
theorem dX2_readPlace_45 : decode cX2_readPlace 45 = .ok (.lload_n 1, 1) := by decide +kernel
theorem dX2_readPlace_46 : decode cX2_readPlace 46 = .ok (.invokevirtual 116, 3) := by decide +kernel
theorem dX2_readPlace_49 : decode cX2_readPlace 49 = .ok (.return_, 1) := by decide +kernel
theorem dX2_readRoad_0 : decode cX2_readRoad 0 = .ok (.aload_n 0, 1) := by decide +kernel
theorem dX2_readRoad_1 : decode cX2_readRoad 1 = .ok (.aload_n 0, 1) := by decide +kernel
theorem dX2_readRoad_2 : decode cX2_readRoad 2 = .ok (.getfield 24, 3) := by decide +kernel
theorem dX2_readRoad_5 : decode cX2_readRoad 5 = .ok (.getfield 120, 3) := by decide +kernel
theorem dX2_readRoad_8 : decode cX2_readRoad 8 = .ok (.bipush 10, 2) := by decide +kernel
theorem dX2_readRoad_10 : decode cX2_readRoad 10 = .ok (.if_icmp .ge 7, 3) := by decide +kernel
theorem dX2_readRoad_13 : decode cX2_readRoad 13 = .ok (.iconst 1, 1) := by decide +kernel
theorem dX2_readRoad_14 : decode cX2_readRoad 14 = .ok (.goto 4, 3) := by decide +kernel
theorem dX2_readRoad_17 : decode cX2_readRoad 17 = .ok (.iconst 0, 1) := by decide +kernel
theorem dX2_readRoad_18 : decode cX2_readRoad 18 = .ok (.iconst 5, 1) := by decide +kernel
theorem dX2_readRoad_19 : decode cX2_readRoad 19 = .ok (.invokevirtual 84, 3) := by decide +kernel
theorem dX2_readRoad_22 : decode cX2_readRoad 22 = .ok (.aload_n 0, 1) := by decide +kernel
theorem dX2_readRoad_23 : decode cX2_readRoad 23 = .ok (.iconst (-1), 1) := by decide +kernel
theorem dX2_readRoad_24 : decode cX2_readRoad 24 = .ok (.invokevirtual 123, 3) := by decide +kernel
theorem dX2_readRoad_27 : decode cX2_readRoad 27 = .ok (.istore_n 1, 1) := by decide +kernel
theorem dX2_readRoad_28 : decode cX2_readRoad 28 = .ok (.aload_n 0, 1) := by decide +kernel
theorem dX2_readRoad_29 : decode cX2_readRoad 29 = .ok (.iload_n 1, 1) := by decide +kernel
theorem dX2_readRoad_30 : decode cX2_readRoad 30 = .ok (.invokevirtual 123, 3) := by decide +kernel
theorem dX2_readRoad_33 : decode cX2_readRoad 33 = .ok (.istore_n 2, 1) := by decide +kernel
theorem dX2_readRoad_34 : decode cX2_readRoad 34 = .ok (.aload_n 0, 1) := by decide +kernel
theorem dX2_readRoad_35 : decode cX2_readRoad 35 = .ok (.getstatic 127, 3) := by decide +kernel
theorem dX2_readRoad_38 : decode cX2_readRoad 38 = .ok (.invokevirtual 95, 3) := by decide +kernel
theorem dX2_readRoad_41 : decode cX2_readRoad 41 = .ok (.aload_n 0, 1) := by decide +kernel
theorem dX2_readRoad_42 : decode cX2_readRoad 42 = .ok (.iconst 1, 1) := by decide +kernel
theorem dX2_readRoad_43 : decode cX2_readRoad 43 = .ok (.bipush 99, 2) := by decide +kernel
theorem dX2_readRoad_45 : decode cX2_readRoad 45 = .ok (.invokevirtual 99, 3) := by decide +kernel
theorem dX2_readRoad_48 : decode cX2_readRoad 48 = .ok (.istore_n 3, 1) := by decide +kernel
theorem dX2_readRoad_49 : decode cX2_readRoad 49 = .ok (.aload_n 0, 1) := by decide +kernel
theorem dX2_readRoad_50 : decode cX2_readRoad 50 = .ok (.getstatic 130, 3) := by decide +kernel
theorem dX2_readRoad_53 : decode cX2_readRoad 53 = .ok (.invokevirtual 95, 3) := by decide +kernel
theorem dX2_readRoad_56 : decode cX2_readRoad 56 = .ok (.aload_n 0, 1) := by decide +kernel
theorem dX2_readRoad_57 : decode cX2_readRoad 57 = .ok (.iconst 0, 1) := by decide +kernel
theorem dX2_readRoad_58 : decode cX2_readRoad 58 = .ok (.sipush 999, 3) := by decide +kernel
theorem dX2_readRoad_61 : decode cX2_readRoad 61 = .ok (.invokevirtual 99, 3) := by decide +kernel
theorem dX2_readRoad_64 : decode cX2_readRoad 64 = .ok (.istore 4, 2) := by decide +kernel
theorem dX2_readRoad_66 : decode cX2_readRoad 66 = .ok (.aload_n 0, 1) := by decide +kernel
theorem dX2_readRoad_67 : decode cX2_readRoad 67 = .ok (.getstatic 106, 3) := by decide +kernel
theorem dX2_readRoad_70 : decode cX2_readRoad 70 = .ok (.invokevirtual 95, 3) := by decide +kernel
theorem dX2_readRoad_73 : decode cX2_readRoad 73 = .ok (.aload_n 0, 1) := by decide +kernel
theorem dX2_readRoad_74 : decode cX2_readRoad 74 = .ok (.getfield 28, 3) := by decide +kernel
theorem dX2_readRoad_77 : decode cX2_readRoad 77 = .ok (.ifCond .ne 15, 3) := by decide +kernel
theorem dX2_readRoad_80 : decode cX2_readRoad 80 = .ok (.aload_n 0, 1) := by decide +kernel
theorem dX2_readRoad_81 : decode cX2_readRoad 81 = .ok (.getfield 24, 3) := by decide +kernel
theorem dX2_readRoad_84 : decode cX2_readRoad 84 = .ok (.iload_n 1, 1) := by decide +kernel
theorem dX2_readRoad_85 : decode cX2_readRoad 85 = .ok (.iload_n 2, 1) := by decide +kernel
theorem dX2_readRoad_86 : decode cX2_readRoad 86 = .ok (.iload_n 3, 1) := by decide +kernel
theorem dX2_readRoad_87 : decode cX2_readRoad 87 = .ok (.iload 4, 2) := by decide +kernel
theorem dX2_readRoad_89 : decode cX2_readRoad 89 = .ok (.invokevirtual 133, 3) := by decide +kernel
theorem dX2_readRoad_92 : decode cX2_readRoad 92 = .ok (.return_, 1) := by decide +kernel
theorem dX2_readTrade_0 : decode cX2_readTrade 0 = .ok (.aload_n 0, 1) := by decide +kernel
theorem dX2_readTrade_1 : decode cX2_readTrade 1 = .ok (.aload_n 0, 1) := by decide +kernel
theorem dX2_readTrade_2 : decode cX2_readTrade 2 = .ok (.getfield 24, 3) := by decide +kernel
theorem dX2_readTrade_5 : decode cX2_readTrade 5 = .ok (.getfield 137, 3) := by decide +kernel
theorem dX2_readTrade_8 : decode cX2_readTrade 8 = .ok (.getfield 141, 3) := by decide +kernel
theorem dX2_readTrade_11 : decode cX2_readTrade 11 = .ok (.bipush 6, 2) := by decide +kernel
theorem dX2_readTrade_13 : decode cX2_readTrade 13 = .ok (.if_icmp .ge 7, 3) := by decide +kernel
theorem dX2_readTrade_16 : decode cX2_readTrade 16 = .ok (.iconst 1, 1) := by decide +kernel
theorem dX2_readTrade_17 : decode cX2_readTrade 17 = .ok (.goto 4, 3) := by decide +kernel
theorem dX2_readTrade_20 : decode cX2_readTrade 20 = .ok (.iconst 0, 1) := by decide +kernel
theorem dX2_readTrade_21 : decode cX2_readTrade 21 = .ok (.iconst 5, 1) := by decide +kernel
theorem dX2_readTrade_22 : decode cX2_readTrade 22 = .ok (.invokevirtual 84, 3) := by decide +kernel
theorem dX2_readTrade_25 : decode cX2_readTrade 25 = .ok (.aload_n 0, 1) := by decide +kernel
theorem dX2_readTrade_26 : decode cX2_readTrade 26 = .ok (.iconst (-1), 1) := by decide +kernel
theorem dX2_readTrade_27 : decode cX2_readTrade 27 = .ok (.invokevirtual 123, 3) := by decide +kernel
theorem dX2_readTrade_30 : decode cX2_readTrade 30 = .ok (.istore_n 1, 1) := by decide +kernel
theorem dX2_readTrade_31 : decode cX2_readTrade 31 = .ok (.aload_n 0, 1) := by decide +kernel
theorem dX2_readTrade_32 : decode cX2_readTrade 32 = .ok (.iload_n 1, 1) := by decide +kernel
theorem dX2_readTrade_33 : decode cX2_readTrade 33 = .ok (.invokevirtual 123, 3) := by decide +kernel
theorem dX2_readTrade_36 : decode cX2_readTrade 36 = .ok (.istore_n 2, 1) := by decide +kernel
theorem dX2_readTrade_37 : decode cX2_readTrade 37 = .ok (.aload_n 0, 1) := by decide +kernel
theorem dX2_readTrade_38 : decode cX2_readTrade 38 = .ok (.getstatic 146, 3) := by decide +kernel
theorem dX2_readTrade_41 : decode cX2_readTrade 41 = .ok (.invokevirtual 95, 3) := by decide +kernel
theorem dX2_readTrade_44 : decode cX2_readTrade 44 = .ok (.aload_n 0, 1) := by decide +kernel
theorem dX2_readTrade_45 : decode cX2_readTrade 45 = .ok (.invokevirtual 149, 3) := by decide +kernel
theorem dX2_readTrade_48 : decode cX2_readTrade 48 = .ok (.istore_n 3, 1) := by decide +kernel
theorem dX2_readTrade_49 : decode cX2_readTrade 49 = .ok (.aload_n 0, 1) := by decide +kernel
theorem dX2_readTrade_50 : decode cX2_readTrade 50 = .ok (.getstatic 152, 3) := by decide +kernel
theorem dX2_readTrade_53 : decode cX2_readTrade 53 = .ok (.invokevirtual 95, 3) := by decide +kernel
theorem dX2_readTrade_56 : decode cX2_readTrade 56 = .ok (.aload_n 0, 1) := by decide +kernel
theorem dX2_readTrade_57 : decode cX2_readTrade 57 = .ok (.iconst 1, 1) := by decide +kernel
theorem dX2_readTrade_58 : decode cX2_readTrade 58 = .ok (.sipush 999, 3) := by decide +kernel
theorem dX2_readTrade_61 : decode cX2_readTrade 61 = .ok (.invokevirtual 99, 3) := by decide +kernel
theorem dX2_readTrade_64 : decode cX2_readTrade 64 = .ok (.istore 4, 2) := by decide +kernel
theorem dX2_readTrade_66 : decode cX2_readTrade 66 = .ok (.aload_n 0, 1) := by decide +kernel
theorem dX2_readTrade_67 : decode cX2_readTrade 67 = .ok (.getstatic 106, 3) := by decide +kernel
theorem dX2_readTrade_70 : decode cX2_readTrade 70 = .ok (.invokevirtual 95, 3) := by decide +kernel
theorem dX2_readTrade_73 : decode cX2_readTrade 73 = .ok (.aload_n 0, 1) := by decide +kernel
theorem dX2_readTrade_74 : decode cX2_readTrade 74 = .ok (.getfield 28, 3) := by decide +kernel
theorem dX2_readTrade_77 : decode cX2_readTrade 77 = .ok (.ifCond .ne 18, 3) := by decide +kernel
theorem dX2_readTrade_80 : decode cX2_readTrade 80 = .ok (.aload_n 0, 1) := by decide +kernel
theorem dX2_readTrade_81 : decode cX2_readTrade 81 = .ok (.getfield 24, 3) := by decide +kernel
theorem dX2_readTrade_84 : decode cX2_readTrade 84 = .ok (.getfield 137, 3) := by decide +kernel
theorem dX2_readTrade_87 : decode cX2_readTrade 87 = .ok (.iload_n 1, 1) := by decide +kernel
theorem dX2_readTrade_88 : decode cX2_readTrade 88 = .ok (.iload_n 2, 1) := by decide +kernel
theorem dX2_readTrade_89 : decode cX2_readTrade 89 = .ok (.iload_n 3, 1) := by decide +kernel
theorem dX2_readTrade_90 : decode cX2_readTrade 90 = .ok (.iload 4, 2) := by decide +kernel
theorem dX2_readTrade_92 : decode cX2_readTrade 92 = .ok (.invokevirtual 155, 3) := by decide +kernel
theorem dX2_readTrade_95 : decode cX2_readTrade 95 = .ok (.return_, 1) := by decide +kernel
theorem dX2_readLaw_0 : decode cX2_readLaw 0 = .ok (.aload_n 0, 1) := by decide +kernel
theorem dX2_readLaw_1 : decode cX2_readLaw 1 = .ok (.aload_n 0, 1) := by decide +kernel
theorem dX2_readLaw_2 : decode cX2_readLaw 2 = .ok (.getfield 24, 3) := by decide +kernel
theorem dX2_readLaw_5 : decode cX2_readLaw 5 = .ok (.iload_n 1, 1) := by decide +kernel
theorem dX2_readLaw_6 : decode cX2_readLaw 6 = .ok (.invokevirtual 158, 3) := by decide +kernel
theorem dX2_readLaw_9 : decode cX2_readLaw 9 = .ok (.ifCond .ne 7, 3) := by decide +kernel
theorem dX2_readLaw_12 : decode cX2_readLaw 12 = .ok (.iconst 1, 1) := by decide +kernel
theorem dX2_readLaw_13 : decode cX2_readLaw 13 = .ok (.goto 4, 3) := by decide +kernel
theorem dX2_readLaw_16 : decode cX2_readLaw 16 = .ok (.iconst 0, 1) := by decide +kernel
theorem dX2_readLaw_17 : decode cX2_readLaw 17 = .ok (.iconst 3, 1) := by decide +kernel
theorem dX2_readLaw_18 : decode cX2_readLaw 18 = .ok (.invokevirtual 84, 3) := by decide +kernel
theorem dX2_readLaw_21 : decode cX2_readLaw 21 = .ok (.aload_n 0, 1) := by decide +kernel
theorem dX2_readLaw_22 : decode cX2_readLaw 22 = .ok (.iload_n 1, 1) := by decide +kernel
theorem dX2_readLaw_23 : decode cX2_readLaw 23 = .ok (.putfield 162, 3) := by decide +kernel
theorem dX2_readLaw_26 : decode cX2_readLaw 26 = .ok (.aload_n 0, 1) := by decide +kernel
theorem dX2_readLaw_27 : decode cX2_readLaw 27 = .ok (.getfield 24, 3) := by decide +kernel
theorem dX2_readLaw_30 : decode cX2_readLaw 30 = .ok (.getfield 165, 3) := by decide +kernel
theorem dX2_readLaw_33 : decode cX2_readLaw 33 = .ok (.iload_n 1, 1) := by decide +kernel
theorem dX2_readLaw_34 : decode cX2_readLaw 34 = .ok (.aload_n 0, 1) := by decide +kernel
theorem dX2_readLaw_35 : decode cX2_readLaw 35 = .ok (.getfield 24, 3) := by decide +kernel
theorem dX2_readLaw_38 : decode cX2_readLaw 38 = .ok (.getfield 168, 3) := by decide +kernel
theorem dX2_readLaw_41 : decode cX2_readLaw 41 = .ok (.iastore, 1) := by decide +kernel
theorem dX2_readLaw_42 : decode cX2_readLaw 42 = .ok (.aload_n 0, 1) := by decide +kernel
theorem dX2_readLaw_43 : decode cX2_readLaw 43 = .ok (.iconst 0, 1) := by decide +kernel
theorem dX2_readLaw_44 : decode cX2_readLaw 44 = .ok (.iconst 0, 1) := by decide +kernel
theorem dX2_readLaw_45 : decode cX2_readLaw 45 = .ok (.invokevirtual 171, 3) := by decide +kernel
theorem dX2_readLaw_48 : decode cX2_readLaw 48 = .ok (.aload_n 0, 1) := by decide +kernel
theorem dX2_readLaw_49 : decode cX2_readLaw 49 = .ok (.getstatic 106, 3) := by decide +kernel
theorem dX2_readLaw_52 : decode cX2_readLaw 52 = .ok (.invokevirtual 95, 3) := by decide +kernel
theorem dX2_readLaw_55 : decode cX2_readLaw 55 = .ok (.aload_n 0, 1) := by decide +kernel
theorem dX2_readLaw_56 : decode cX2_readLaw 56 = .ok (.getfield 24, 3) := by decide +kernel
theorem dX2_readLaw_59 : decode cX2_readLaw 59 = .ok (.getfield 175, 3) := by decide +kernel
theorem dX2_readLaw_62 : decode cX2_readLaw 62 = .ok (.iload_n 1, 1) := by decide +kernel
theorem dX2_readLaw_63 : decode cX2_readLaw 63 = .ok (.aload_n 0, 1) := by decide +kernel
theorem dX2_readLaw_64 : decode cX2_readLaw 64 = .ok (.getfield 24, 3) := by decide +kernel
theorem dX2_readLaw_67 : decode cX2_readLaw 67 = .ok (.getfield 168, 3) := by decide +kernel
theorem dX2_readLaw_70 : decode cX2_readLaw 70 = .ok (.iastore, 1) := by decide +kernel
theorem dX2_readLaw_71 : decode cX2_readLaw 71 = .ok (.return_, 1) := by decide +kernel
theorem dX2_readJoined_0 : decode cX2_readJoined 0 = .ok (.iload_n 1, 1) := by decide +kernel
theorem dX2_readJoined_1 : decode cX2_readJoined 1 = .ok (.iconst 4, 1) := by decide +kernel
theorem dX2_readJoined_2 : decode cX2_readJoined 2 = .ok (.if_icmp .lt 9, 3) := by decide +kernel
theorem dX2_readJoined_5 : decode cX2_readJoined 5 = .ok (.aload_n 0, 1) := by decide +kernel
theorem dX2_readJoined_6 : decode cX2_readJoined 6 = .ok (.iload_n 2, 1) := by decide +kernel
theorem dX2_readJoined_7 : decode cX2_readJoined 7 = .ok (.invokevirtual 178, 3) := by decide +kernel
theorem dX2_readJoined_10 : decode cX2_readJoined 10 = .ok (.return_, 1) := by decide +kernel
theorem dX2_readJoined_11 : decode cX2_readJoined 11 = .ok (.aload_n 0, 1) := by decide +kernel
theorem dX2_readJoined_12 : decode cX2_readJoined 12 = .ok (.iload_n 1, 1) := by decide +kernel
theorem dX2_readJoined_13 : decode cX2_readJoined 13 = .ok (.iconst 1, 1) := by decide +kernel
theorem dX2_readJoined_14 : decode cX2_readJoined 14 = .ok (.iadd, 1) := by decide +kernel
theorem dX2_readJoined_15 : decode cX2_readJoined 15 = .ok (.iload_n 2, 1) := by decide +kernel
theorem dX2_readJoined_16 : decode cX2_readJoined 16 = .ok (.invokevirtual 171, 3) := by decide +kernel
theorem dX2_readJoined_19 : decode cX2_readJoined 19 = .ok (.iload_n 1, 1) := by decide +kernel
theorem dX2_readJoined_20 : decode cX2_readJoined 20 = .ok (.iconst 1, 1) := by decide +kernel
theorem dX2_readJoined_21 : decode cX2_readJoined 21 = .ok (.if_icmp .ne 7, 3) := by decide +kernel
theorem dX2_readJoined_24 : decode cX2_readJoined 24 = .ok (.iconst 1, 1) := by decide +kernel
theorem dX2_readJoined_25 : decode cX2_readJoined 25 = .ok (.goto 6, 3) := by decide +kernel
theorem dX2_readJoined_28 : decode cX2_readJoined 28 = .ok (.sipush 1001, 3) := by decide +kernel
theorem dX2_readJoined_31 : decode cX2_readJoined 31 = .ok (.istore_n 3, 1) := by decide +kernel
theorem dX2_readJoined_32 : decode cX2_readJoined 32 = .ok (.iconst 0, 1) := by decide +kernel
theorem dX2_readJoined_33 : decode cX2_readJoined 33 = .ok (.istore 4, 2) := by decide +kernel
theorem dX2_readJoined_35 : decode cX2_readJoined 35 = .ok (.iload 4, 2) := by decide +kernel
theorem dX2_readJoined_37 : decode cX2_readJoined 37 = .ok (.iload_n 3, 1) := by decide +kernel
theorem dX2_readJoined_38 : decode cX2_readJoined 38 = .ok (.if_icmp .ge 57, 3) := by decide +kernel
theorem dX2_readJoined_41 : decode cX2_readJoined 41 = .ok (.aload_n 0, 1) := by decide +kernel
theorem dX2_readJoined_42 : decode cX2_readJoined 42 = .ok (.getfield 28, 3) := by decide +kernel
theorem dX2_readJoined_45 : decode cX2_readJoined 45 = .ok (.ifCond .ne 50, 3) := by decide +kernel
theorem dX2_readJoined_48 : decode cX2_readJoined 48 = .ok (.aload_n 0, 1) := by decide +kernel
theorem dX2_readJoined_49 : decode cX2_readJoined 49 = .ok (.getfield 15, 3) := by decide +kernel
theorem dX2_readJoined_52 : decode cX2_readJoined 52 = .ok (.getfield 181, 3) := by decide +kernel
theorem dX2_readJoined_55 : decode cX2_readJoined 55 = .ok (.iload_n 1, 1) := by decide +kernel
theorem dX2_readJoined_56 : decode cX2_readJoined 56 = .ok (.if_icmp .ne 39, 3) := by decide +kernel
theorem dX2_readJoined_59 : decode cX2_readJoined 59 = .ok (.aload_n 0, 1) := by decide +kernel
theorem dX2_readJoined_60 : decode cX2_readJoined 60 = .ok (.getfield 15, 3) := by decide +kernel
theorem dX2_readJoined_63 : decode cX2_readJoined 63 = .ok (.getfield 184, 3) := by decide +kernel
theorem dX2_readJoined_66 : decode cX2_readJoined 66 = .ok (.istore 5, 2) := by decide +kernel
theorem dX2_readJoined_68 : decode cX2_readJoined 68 = .ok (.aload_n 0, 1) := by decide +kernel
theorem dX2_readJoined_69 : decode cX2_readJoined 69 = .ok (.invokevirtual 187, 3) := by decide +kernel
theorem dX2_readJoined_72 : decode cX2_readJoined 72 = .ok (.aload_n 0, 1) := by decide +kernel
theorem dX2_readJoined_73 : decode cX2_readJoined 73 = .ok (.iload_n 1, 1) := by decide +kernel
theorem dX2_readJoined_74 : decode cX2_readJoined 74 = .ok (.iconst 1, 1) := by decide +kernel
theorem dX2_readJoined_75 : decode cX2_readJoined 75 = .ok (.iadd, 1) := by decide +kernel
theorem dX2_readJoined_76 : decode cX2_readJoined 76 = .ok (.iload_n 2, 1) := by decide +kernel
theorem dX2_readJoined_77 : decode cX2_readJoined 77 = .ok (.invokevirtual 171, 3) := by decide +kernel
theorem dX2_readJoined_80 : decode cX2_readJoined 80 = .ok (.aload_n 0, 1) := by decide +kernel
theorem dX2_readJoined_81 : decode cX2_readJoined 81 = .ok (.getfield 24, 3) := by decide +kernel
theorem dX2_readJoined_84 : decode cX2_readJoined 84 = .ok (.iload 5, 2) := by decide +kernel
theorem dX2_readJoined_86 : decode cX2_readJoined 86 = .ok (.invokevirtual 189, 3) := by decide +kernel
theorem dX2_readJoined_89 : decode cX2_readJoined 89 = .ok (.iinc 4 1, 3) := by decide +kernel
theorem dX2_readJoined_92 : decode cX2_readJoined 92 = .ok (.goto (-57), 3) := by decide +kernel
theorem dX2_readJoined_95 : decode cX2_readJoined 95 = .ok (.return_, 1) := by decide +kernel
theorem dX2_readPart_0 : decode cX2_readPart 0 = .ok (.aload_n 0, 1) := by decide +kernel
theorem dX2_readPart_1 : decode cX2_readPart 1 = .ok (.getfield 15, 3) := by decide +kernel
theorem dX2_readPart_4 : decode cX2_readPart 4 = .ok (.aload_n 0, 1) := by decide +kernel
theorem dX2_readPart_5 : decode cX2_readPart 5 = .ok (.getfield 162, 3) := by decide +kernel
theorem dX2_readPart_8 : decode cX2_readPart 8 = .ok (.invokevirtual 192, 3) := by decide +kernel
theorem dX2_readPart_11 : decode cX2_readPart 11 = .ok (.istore_n 2, 1) := by decide +kernel
theorem dX2_readPart_12 : decode cX2_readPart 12 = .ok (.aload_n 0, 1) := by decide +kernel
theorem dX2_readPart_13 : decode cX2_readPart 13 = .ok (.getfield 15, 3) := by decide +kernel
theorem dX2_readPart_16 : decode cX2_readPart 16 = .ok (.getstatic 195, 3) := by decide +kernel
theorem dX2_readPart_19 : decode cX2_readPart 19 = .ok (.if_acmp .ne 7, 3) := by decide +kernel
theorem dX2_readPart_22 : decode cX2_readPart 22 = .ok (.iconst 1, 1) := by decide +kernel
theorem dX2_readPart_23 : decode cX2_readPart 23 = .ok (.goto 4, 3) := by decide +kernel
theorem dX2_readPart_26 : decode cX2_readPart 26 = .ok (.iconst 0, 1) := by decide +kernel
theorem dX2_readPart_27 : decode cX2_readPart 27 = .ok (.istore_n 3, 1) := by decide +kernel
theorem dX2_readPart_28 : decode cX2_readPart 28 = .ok (.aload_n 0, 1) := by decide +kernel
theorem dX2_readPart_29 : decode cX2_readPart 29 = .ok (.getfield 28, 3) := by decide +kernel
theorem dX2_readPart_32 : decode cX2_readPart 32 = .ok (.ifCond .eq 4, 3) := by decide +kernel
theorem dX2_readPart_35 : decode cX2_readPart 35 = .ok (.return_, 1) := by decide +kernel
theorem dX2_readPart_36 : decode cX2_readPart 36 = .ok (.iload_n 2, 1) := by decide +kernel
theorem dX2_readPart_37 : decode cX2_readPart 37 = .ok (.ifCond .ne 35, 3) := by decide +kernel
theorem dX2_readPart_40 : decode cX2_readPart 40 = .ok (.iload_n 3, 1) := by decide +kernel
theorem dX2_readPart_41 : decode cX2_readPart 41 = .ok (.ifCond .ne 31, 3) := by decide +kernel
theorem dX2_readPart_44 : decode cX2_readPart 44 = .ok (.aload_n 0, 1) := by decide +kernel
theorem dX2_readPart_45 : decode cX2_readPart 45 = .ok (.getfield 15, 3) := by decide +kernel
theorem dX2_readPart_48 : decode cX2_readPart 48 = .ok (.getstatic 198, 3) := by decide +kernel
theorem dX2_readPart_51 : decode cX2_readPart 51 = .ok (.if_acmp .eq 21, 3) := by decide +kernel
theorem dX2_readPart_54 : decode cX2_readPart 54 = .ok (.aload_n 0, 1) := by decide +kernel
theorem dX2_readPart_55 : decode cX2_readPart 55 = .ok (.getfield 15, 3) := by decide +kernel
theorem dX2_readPart_58 : decode cX2_readPart 58 = .ok (.getstatic 201, 3) := by decide +kernel
theorem dX2_readPart_61 : decode cX2_readPart 61 = .ok (.if_acmp .eq 11, 3) := by decide +kernel
theorem dX2_readPart_64 : decode cX2_readPart 64 = .ok (.aload_n 0, 1) := by decide +kernel
theorem dX2_readPart_65 : decode cX2_readPart 65 = .ok (.iconst 1, 1) := by decide +kernel
theorem dX2_readPart_66 : decode cX2_readPart 66 = .ok (.invokevirtual 78, 3) := by decide +kernel
theorem dX2_readPart_69 : decode cX2_readPart 69 = .ok (.goto 120, 3) := by decide +kernel
theorem dX2_readPart_72 : decode cX2_readPart 72 = .ok (.iload_n 1, 1) := by decide +kernel
theorem dX2_readPart_73 : decode cX2_readPart 73 = .ok (.iconst 5, 1) := by decide +kernel
theorem dX2_readPart_74 : decode cX2_readPart 74 = .ok (.if_icmp .lt 11, 3) := by decide +kernel
theorem dX2_readPart_77 : decode cX2_readPart 77 = .ok (.aload_n 0, 1) := by decide +kernel
theorem dX2_readPart_78 : decode cX2_readPart 78 = .ok (.iconst 5, 1) := by decide +kernel
theorem dX2_readPart_79 : decode cX2_readPart 79 = .ok (.invokevirtual 78, 3) := by decide +kernel
theorem dX2_readPart_82 : decode cX2_readPart 82 = .ok (.goto 107, 3) := by decide +kernel
theorem dX2_readPart_85 : decode cX2_readPart 85 = .ok (.iload_n 2, 1) := by decide +kernel
theorem dX2_readPart_86 : decode cX2_readPart 86 = .ok (.ifCond .ne 7, 3) := by decide +kernel
theorem dX2_readPart_89 : decode cX2_readPart 89 = .ok (.iload_n 3, 1) := by decide +kernel
theorem dX2_readPart_90 : decode cX2_readPart 90 = .ok (.ifCond .eq 47, 3) := by decide +kernel
theorem dX2_readPart_93 : decode cX2_readPart 93 = .ok (.aload_n 0, 1) := by decide +kernel
theorem dX2_readPart_94 : decode cX2_readPart 94 = .ok (.getfield 24, 3) := by decide +kernel
theorem dX2_readPart_97 : decode cX2_readPart 97 = .ok (.iload_n 2, 1) := by decide +kernel
theorem dX2_readPart_98 : decode cX2_readPart 98 = .ok (.ifCond .eq 13, 3) := by decide +kernel
theorem dX2_readPart_101 : decode cX2_readPart 101 = .ok (.aload_n 0, 1) := by decide +kernel
theorem dX2_readPart_102 : decode cX2_readPart 102 = .ok (.getfield 15, 3) := by decide +kernel
theorem dX2_readPart_105 : decode cX2_readPart 105 = .ok (.getfield 184, 3) := by decide +kernel
theorem dX2_readPart_108 : decode cX2_readPart 108 = .ok (.goto 19, 3) := by decide +kernel
theorem dX2_readPart_111 : decode cX2_readPart 111 = .ok (.bipush 16, 2) := by decide +kernel
theorem dX2_readPart_113 : decode cX2_readPart 113 = .ok (.aload_n 0, 1) := by decide +kernel
theorem dX2_readPart_114 : decode cX2_readPart 114 = .ok (.getfield 20, 3) := by decide +kernel
theorem dX2_readPart_117 : decode cX2_readPart 117 = .ok (.getfield 204, 3) := by decide +kernel
theorem dX2_readPart_120 : decode cX2_readPart 120 = .ok (.aload_n 0, 1) := by decide +kernel
theorem dX2_readPart_121 : decode cX2_readPart 121 = .ok (.getfield 32, 3) := by decide +kernel
theorem dX2_readPart_124 : decode cX2_readPart 124 = .ok (.laload, 1) := by decide +kernel
theorem dX2_readPart_125 : decode cX2_readPart 125 = .ok (.l2i, 1) := by decide +kernel
theorem dX2_readPart_126 : decode cX2_readPart 126 = .ok (.iadd, 1) := by decide +kernel
theorem dX2_readPart_127 : decode cX2_readPart 127 = .ok (.invokevirtual 189, 3) := by decide +kernel
theorem dX2_readPart_130 : decode cX2_readPart 130 = .ok (.aload_n 0, 1) := by decide +kernel
theorem dX2_readPart_131 : decode cX2_readPart 131 = .ok (.invokevirtual 187, 3) := by decide +kernel
theorem dX2_readPart_134 : decode cX2_readPart 134 = .ok (.goto 55, 3) := by decide +kernel
theorem dX2_readPart_137 : decode cX2_readPart 137 = .ok (.aload_n 0, 1) := by decide +kernel
theorem dX2_readPart_138 : decode cX2_readPart 138 = .ok (.getfield 15, 3) := by decide +kernel
theorem dX2_readPart_141 : decode cX2_readPart 141 = .ok (.getstatic 198, 3) := by decide +kernel
theorem dX2_readPart_144 : decode cX2_readPart 144 = .ok (.if_acmp .ne 26, 3) := by decide +kernel
theorem dX2_readPart_147 : decode cX2_readPart 147 = .ok (.aload_n 0, 1) := by decide +kernel
theorem dX2_readPart_148 : decode cX2_readPart 148 = .ok (.invokevirtual 187, 3) := by decide +kernel
theorem dX2_readPart_151 : decode cX2_readPart 151 = .ok (.aload_n 0, 1) := by decide +kernel
theorem dX2_readPart_152 : decode cX2_readPart 152 = .ok (.iload_n 1, 1) := by decide +kernel
theorem dX2_readPart_153 : decode cX2_readPart 153 = .ok (.iconst 1, 1) := by decide +kernel
theorem dX2_readPart_154 : decode cX2_readPart 154 = .ok (.iadd, 1) := by decide +kernel
theorem dX2_readPart_155 : decode cX2_readPart 155 = .ok (.invokevirtual 178, 3) := by decide +kernel
theorem dX2_readPart_158 : decode cX2_readPart 158 = .ok (.aload_n 0, 1) := by decide +kernel
theorem dX2_readPart_159 : decode cX2_readPart 159 = .ok (.getfield 24, 3) := by decide +kernel
theorem dX2_readPart_162 : decode cX2_readPart 162 = .ok (.bipush 8, 2) := by decide +kernel
theorem dX2_readPart_164 : decode cX2_readPart 164 = .ok (.invokevirtual 189, 3) := by decide +kernel
theorem dX2_readPart_167 : decode cX2_readPart 167 = .ok (.goto 22, 3) := by decide +kernel
theorem dX2_readPart_170 : decode cX2_readPart 170 = .ok (.aload_n 0, 1) := by decide +kernel
theorem dX2_readPart_171 : decode cX2_readPart 171 = .ok (.invokevirtual 187, 3) := by decide +kernel
theorem dX2_readPart_174 : decode cX2_readPart 174 = .ok (.aload_n 0, 1) := by decide +kernel
theorem dX2_readPart_175 : decode cX2_readPart 175 = .ok (.iconst 0, 1) := by decide +kernel
theorem dX2_readPart_176 : decode cX2_readPart 176 = .ok (.iload_n 1, 1) := by decide +kernel
theorem dX2_readPart_177 : decode cX2_readPart 177 = .ok (.iconst 1, 1) := by decide +kernel
theorem dX2_readPart_178 : decode cX2_readPart 178 = .ok (.iadd, 1) := by decide +kernel
theorem dX2_readPart_179 : decode cX2_readPart 179 = .ok (.invokevirtual 171, 3) := by decide +kernel
theorem dX2_readPart_182 : decode cX2_readPart 182 = .ok (.aload_n 0, 1) := by decide +kernel
theorem dX2_readPart_183 : decode cX2_readPart 183 = .ok (.getstatic 208, 3) := by decide +kernel
theorem dX2_readPart_186 : decode cX2_readPart 186 = .ok (.invokevirtual 95, 3) := by decide +kernel
theorem dX2_readPart_189 : decode cX2_readPart 189 = .ok (.return_, 1) := by decide +kernel
theorem dX2_open_0 : decode cX2_open 0 = .ok (.iload_n 1, 1) := by decide +kernel
theorem dX2_open_1 : decode cX2_open 1 = .ok (.ifCond .ne 8, 3) := by decide +kernel
theorem dX2_open_4 : decode cX2_open 4 = .ok (.aload_n 0, 1) := by decide +kernel
theorem dX2_open_5 : decode cX2_open 5 = .ok (.iload_n 2, 1) := by decide +kernel
theorem dX2_open_6 : decode cX2_open 6 = .ok (.invokevirtual 78, 3) := by decide +kernel
theorem dX2_open_9 : decode cX2_open 9 = .ok (.aload_n 0, 1) := by decide +kernel
theorem dX2_open_10 : decode cX2_open 10 = .ok (.invokevirtual 187, 3) := by decide +kernel
theorem dX2_open_13 : decode cX2_open 13 = .ok (.return_, 1) := by decide +kernel
theorem dX2_freshName_0 : decode cX2_freshName 0 = .ok (.aload_n 0, 1) := by decide +kernel
theorem dX2_freshName_1 : decode cX2_freshName 1 = .ok (.getfield 20, 3) := by decide +kernel
theorem dX2_freshName_4 : decode cX2_freshName 4 = .ok (.getfield 204, 3) := by decide +kernel
theorem dX2_freshName_7 : decode cX2_freshName 7 = .ok (.aload_n 0, 1) := by decide +kernel
theorem dX2_freshName_8 : decode cX2_freshName 8 = .ok (.getfield 32, 3) := by decide +kernel
theorem dX2_freshName_11 : decode cX2_freshName 11 = .ok (.laload, 1) := by decide +kernel
theorem dX2_freshName_12 : decode cX2_freshName 12 = .ok (.lstore_n 1, 1) := by decide +kernel
theorem dX2_freshName_13 : decode cX2_freshName 13 = .ok (.aload_n 0, 1) := by decide +kernel
theorem dX2_freshName_14 : decode cX2_freshName 14 = .ok (.getfield 15, 3) := by decide +kernel
theorem dX2_freshName_17 : decode cX2_freshName 17 = .ok (.invokevirtual 211, 3) := by decide +kernel
theorem dX2_freshName_20 : decode cX2_freshName 20 = .ok (.ifCond .ne 11, 3) := by decide +kernel
theorem dX2_freshName_23 : decode cX2_freshName 23 = .ok (.aload_n 0, 1) := by decide +kernel
theorem dX2_freshName_24 : decode cX2_freshName 24 = .ok (.iconst 1, 1) := by decide +kernel
theorem dX2_freshName_25 : decode cX2_freshName 25 = .ok (.invokevirtual 78, 3) := by decide +kernel
theorem dX2_freshName_28 : decode cX2_freshName 28 = .ok (.goto 32, 3) := by decide +kernel
theorem dX2_freshName_31 : decode cX2_freshName 31 = .ok (.aload_n 0, 1) := by decide +kernel
theorem dX2_freshName_32 : decode cX2_freshName 32 = .ok (.getfield 24, 3) := by decide +kernel
theorem dX2_freshName_35 : decode cX2_freshName 35 = .ok (.lload_n 1, 1) := by decide +kernel
theorem dX2_freshName_36 : decode cX2_freshName 36 = .ok (.invokevirtual 215, 3) := by decide +kernel
theorem dX2_freshName_39 : decode cX2_freshName 39 = .ok (.iconst (-1), 1) := by decide +kernel
theorem dX2_freshName_40 : decode cX2_freshName 40 = .ok (.if_icmp .ne 15, 3) := by decide +kernel
theorem dX2_freshName_43 : decode cX2_freshName 43 = .ok (.aload_n 0, 1) := by decide +kernel
theorem dX2_freshName_44 : decode cX2_freshName 44 = .ok (.getfield 24, 3) := by decide +kernel
theorem dX2_freshName_47 : decode cX2_freshName 47 = .ok (.lload_n 1, 1) := by decide +kernel
theorem dX2_freshName_48 : decode cX2_freshName 48 = .ok (.invokevirtual 219, 3) := by decide +kernel
theorem dX2_freshName_51 : decode cX2_freshName 51 = .ok (.iconst (-1), 1) := by decide +kernel
theorem dX2_freshName_52 : decode cX2_freshName 52 = .ok (.if_icmp .eq 8, 3) := by decide +kernel
theorem dX2_freshName_55 : decode cX2_freshName 55 = .ok (.aload_n 0, 1) := by decide +kernel
theorem dX2_freshName_56 : decode cX2_freshName 56 = .ok (.iconst 3, 1) := by decide +kernel
theorem dX2_freshName_57 : decode cX2_freshName 57 = .ok (.invokevirtual 78, 3) := by decide +kernel
theorem dX2_freshName_60 : decode cX2_freshName 60 = .ok (.aload_n 0, 1) := by decide +kernel
theorem dX2_freshName_61 : decode cX2_freshName 61 = .ok (.invokevirtual 187, 3) := by decide +kernel
theorem dX2_freshName_64 : decode cX2_freshName 64 = .ok (.lload_n 1, 1) := by decide +kernel
theorem dX2_freshName_65 : decode cX2_freshName 65 = .ok (.lreturn, 1) := by decide +kernel
theorem dX2_placeOtherThan_0 : decode cX2_placeOtherThan 0 = .ok (.aload_n 0, 1) := by decide +kernel
theorem dX2_placeOtherThan_1 : decode cX2_placeOtherThan 1 = .ok (.getfield 24, 3) := by decide +kernel
theorem dX2_placeOtherThan_4 : decode cX2_placeOtherThan 4 = .ok (.aload_n 0, 1) := by decide +kernel
theorem dX2_placeOtherThan_5 : decode cX2_placeOtherThan 5 = .ok (.getfield 20, 3) := by decide +kernel
theorem dX2_placeOtherThan_8 : decode cX2_placeOtherThan 8 = .ok (.getfield 204, 3) := by decide +kernel
theorem dX2_placeOtherThan_11 : decode cX2_placeOtherThan 11 = .ok (.aload_n 0, 1) := by decide +kernel
theorem dX2_placeOtherThan_12 : decode cX2_placeOtherThan 12 = .ok (.getfield 32, 3) := by decide +kernel
theorem dX2_placeOtherThan_15 : decode cX2_placeOtherThan 15 = .ok (.laload, 1) := by decide +kernel
theorem dX2_placeOtherThan_16 : decode cX2_placeOtherThan 16 = .ok (.invokevirtual 219, 3) := by decide +kernel
theorem dX2_placeOtherThan_19 : decode cX2_placeOtherThan 19 = .ok (.istore_n 2, 1) := by decide +kernel
theorem dX2_placeOtherThan_20 : decode cX2_placeOtherThan 20 = .ok (.aload_n 0, 1) := by decide +kernel
theorem dX2_placeOtherThan_21 : decode cX2_placeOtherThan 21 = .ok (.getfield 15, 3) := by decide +kernel
theorem dX2_placeOtherThan_24 : decode cX2_placeOtherThan 24 = .ok (.invokevirtual 211, 3) := by decide +kernel
theorem dX2_placeOtherThan_27 : decode cX2_placeOtherThan 27 = .ok (.ifCond .ne 11, 3) := by decide +kernel
theorem dX2_placeOtherThan_30 : decode cX2_placeOtherThan 30 = .ok (.aload_n 0, 1) := by decide +kernel
theorem dX2_placeOtherThan_31 : decode cX2_placeOtherThan 31 = .ok (.iconst 1, 1) := by decide +kernel
theorem dX2_placeOtherThan_32 : decode cX2_placeOtherThan 32 = .ok (.invokevirtual 78, 3) := by decide +kernel
theorem dX2_placeOtherThan_35 : decode cX2_placeOtherThan 35 = .ok (.goto 26, 3) := by decide +kernel
theorem dX2_placeOtherThan_38 : decode cX2_placeOtherThan 38 = .ok (.iload_n 2, 1) := by decide +kernel
theorem dX2_placeOtherThan_39 : decode cX2_placeOtherThan 39 = .ok (.iconst (-1), 1) := by decide +kernel
theorem dX2_placeOtherThan_40 : decode cX2_placeOtherThan 40 = .ok (.if_icmp .ne 11, 3) := by decide +kernel
theorem dX2_placeOtherThan_43 : decode cX2_placeOtherThan 43 = .ok (.aload_n 0, 1) := by decide +kernel
theorem dX2_placeOtherThan_44 : decode cX2_placeOtherThan 44 = .ok (.iconst 2, 1) := by decide +kernel
theorem dX2_placeOtherThan_45 : decode cX2_placeOtherThan 45 = .ok (.invokevirtual 78, 3) := by decide +kernel
theorem dX2_placeOtherThan_48 : decode cX2_placeOtherThan 48 = .ok (.goto 13, 3) := by decide +kernel
theorem dX2_placeOtherThan_51 : decode cX2_placeOtherThan 51 = .ok (.iload_n 2, 1) := by decide +kernel
theorem dX2_placeOtherThan_52 : decode cX2_placeOtherThan 52 = .ok (.iload_n 1, 1) := by decide +kernel
theorem dX2_placeOtherThan_53 : decode cX2_placeOtherThan 53 = .ok (.if_icmp .ne 8, 3) := by decide +kernel
theorem dX2_placeOtherThan_56 : decode cX2_placeOtherThan 56 = .ok (.aload_n 0, 1) := by decide +kernel
theorem dX2_placeOtherThan_57 : decode cX2_placeOtherThan 57 = .ok (.iconst 3, 1) := by decide +kernel
theorem dX2_placeOtherThan_58 : decode cX2_placeOtherThan 58 = .ok (.invokevirtual 78, 3) := by decide +kernel
theorem dX2_placeOtherThan_61 : decode cX2_placeOtherThan 61 = .ok (.aload_n 0, 1) := by decide +kernel
theorem dX2_placeOtherThan_62 : decode cX2_placeOtherThan 62 = .ok (.invokevirtual 187, 3) := by decide +kernel
theorem dX2_placeOtherThan_65 : decode cX2_placeOtherThan 65 = .ok (.iload_n 2, 1) := by decide +kernel
theorem dX2_placeOtherThan_66 : decode cX2_placeOtherThan 66 = .ok (.ireturn, 1) := by decide +kernel
theorem dX2_stuffHere_0 : decode cX2_stuffHere 0 = .ok (.aload_n 0, 1) := by decide +kernel
theorem dX2_stuffHere_1 : decode cX2_stuffHere 1 = .ok (.getfield 24, 3) := by decide +kernel
theorem dX2_stuffHere_4 : decode cX2_stuffHere 4 = .ok (.aload_n 0, 1) := by decide +kernel
theorem dX2_stuffHere_5 : decode cX2_stuffHere 5 = .ok (.getfield 20, 3) := by decide +kernel
theorem dX2_stuffHere_8 : decode cX2_stuffHere 8 = .ok (.getfield 204, 3) := by decide +kernel
theorem dX2_stuffHere_11 : decode cX2_stuffHere 11 = .ok (.aload_n 0, 1) := by decide +kernel
theorem dX2_stuffHere_12 : decode cX2_stuffHere 12 = .ok (.getfield 32, 3) := by decide +kernel
theorem dX2_stuffHere_15 : decode cX2_stuffHere 15 = .ok (.laload, 1) := by decide +kernel
theorem dX2_stuffHere_16 : decode cX2_stuffHere 16 = .ok (.invokevirtual 215, 3) := by decide +kernel
theorem dX2_stuffHere_19 : decode cX2_stuffHere 19 = .ok (.istore_n 1, 1) := by decide +kernel
theorem dX2_stuffHere_20 : decode cX2_stuffHere 20 = .ok (.aload_n 0, 1) := by decide +kernel
theorem dX2_stuffHere_21 : decode cX2_stuffHere 21 = .ok (.getfield 15, 3) := by decide +kernel
theorem dX2_stuffHere_24 : decode cX2_stuffHere 24 = .ok (.invokevirtual 211, 3) := by decide +kernel
theorem dX2_stuffHere_27 : decode cX2_stuffHere 27 = .ok (.ifCond .ne 11, 3) := by decide +kernel
theorem dX2_stuffHere_30 : decode cX2_stuffHere 30 = .ok (.aload_n 0, 1) := by decide +kernel
theorem dX2_stuffHere_31 : decode cX2_stuffHere 31 = .ok (.iconst 1, 1) := by decide +kernel
theorem dX2_stuffHere_32 : decode cX2_stuffHere 32 = .ok (.invokevirtual 78, 3) := by decide +kernel
theorem dX2_stuffHere_35 : decode cX2_stuffHere 35 = .ok (.goto 13, 3) := by decide +kernel
theorem dX2_stuffHere_38 : decode cX2_stuffHere 38 = .ok (.iload_n 1, 1) := by decide +kernel
theorem dX2_stuffHere_39 : decode cX2_stuffHere 39 = .ok (.iconst (-1), 1) := by decide +kernel
theorem dX2_stuffHere_40 : decode cX2_stuffHere 40 = .ok (.if_icmp .ne 8, 3) := by decide +kernel
theorem dX2_stuffHere_43 : decode cX2_stuffHere 43 = .ok (.aload_n 0, 1) := by decide +kernel
theorem dX2_stuffHere_44 : decode cX2_stuffHere 44 = .ok (.iconst 2, 1) := by decide +kernel
theorem dX2_stuffHere_45 : decode cX2_stuffHere 45 = .ok (.invokevirtual 78, 3) := by decide +kernel
theorem dX2_stuffHere_48 : decode cX2_stuffHere 48 = .ok (.aload_n 0, 1) := by decide +kernel
theorem dX2_stuffHere_49 : decode cX2_stuffHere 49 = .ok (.invokevirtual 187, 3) := by decide +kernel
theorem dX2_stuffHere_52 : decode cX2_stuffHere 52 = .ok (.iload_n 1, 1) := by decide +kernel
theorem dX2_stuffHere_53 : decode cX2_stuffHere 53 = .ok (.ireturn, 1) := by decide +kernel
theorem dX2_numberWithin_0 : decode cX2_numberWithin 0 = .ok (.aload_n 0, 1) := by decide +kernel
theorem dX2_numberWithin_1 : decode cX2_numberWithin 1 = .ok (.getfield 20, 3) := by decide +kernel
theorem dX2_numberWithin_4 : decode cX2_numberWithin 4 = .ok (.getfield 204, 3) := by decide +kernel
theorem dX2_numberWithin_7 : decode cX2_numberWithin 7 = .ok (.aload_n 0, 1) := by decide +kernel
theorem dX2_numberWithin_8 : decode cX2_numberWithin 8 = .ok (.getfield 32, 3) := by decide +kernel
theorem dX2_numberWithin_11 : decode cX2_numberWithin 11 = .ok (.laload, 1) := by decide +kernel
theorem dX2_numberWithin_12 : decode cX2_numberWithin 12 = .ok (.l2i, 1) := by decide +kernel
theorem dX2_numberWithin_13 : decode cX2_numberWithin 13 = .ok (.istore_n 3, 1) := by decide +kernel
theorem dX2_numberWithin_14 : decode cX2_numberWithin 14 = .ok (.aload_n 0, 1) := by decide +kernel
theorem dX2_numberWithin_15 : decode cX2_numberWithin 15 = .ok (.getfield 15, 3) := by decide +kernel
theorem dX2_numberWithin_18 : decode cX2_numberWithin 18 = .ok (.getstatic 195, 3) := by decide +kernel
theorem dX2_numberWithin_21 : decode cX2_numberWithin 21 = .ok (.if_acmp .eq 11, 3) := by decide +kernel
theorem dX2_numberWithin_24 : decode cX2_numberWithin 24 = .ok (.aload_n 0, 1) := by decide +kernel
theorem dX2_numberWithin_25 : decode cX2_numberWithin 25 = .ok (.iconst 1, 1) := by decide +kernel
theorem dX2_numberWithin_26 : decode cX2_numberWithin 26 = .ok (.invokevirtual 78, 3) := by decide +kernel
theorem dX2_numberWithin_29 : decode cX2_numberWithin 29 = .ok (.goto 18, 3) := by decide +kernel
theorem dX2_numberWithin_32 : decode cX2_numberWithin 32 = .ok (.iload_n 3, 1) := by decide +kernel
theorem dX2_numberWithin_33 : decode cX2_numberWithin 33 = .ok (.iload_n 1, 1) := by decide +kernel
theorem dX2_numberWithin_34 : decode cX2_numberWithin 34 = .ok (.if_icmp .lt 8, 3) := by decide +kernel
theorem dX2_numberWithin_37 : decode cX2_numberWithin 37 = .ok (.iload_n 3, 1) := by decide +kernel
theorem dX2_numberWithin_38 : decode cX2_numberWithin 38 = .ok (.iload_n 2, 1) := by decide +kernel
theorem dX2_numberWithin_39 : decode cX2_numberWithin 39 = .ok (.if_icmp .le 8, 3) := by decide +kernel
theorem dX2_numberWithin_42 : decode cX2_numberWithin 42 = .ok (.aload_n 0, 1) := by decide +kernel
theorem dX2_numberWithin_43 : decode cX2_numberWithin 43 = .ok (.iconst 4, 1) := by decide +kernel
theorem dX2_numberWithin_44 : decode cX2_numberWithin 44 = .ok (.invokevirtual 78, 3) := by decide +kernel
theorem dX2_numberWithin_47 : decode cX2_numberWithin 47 = .ok (.aload_n 0, 1) := by decide +kernel
theorem dX2_numberWithin_48 : decode cX2_numberWithin 48 = .ok (.invokevirtual 187, 3) := by decide +kernel
theorem dX2_numberWithin_51 : decode cX2_numberWithin 51 = .ok (.iload_n 3, 1) := by decide +kernel
theorem dX2_numberWithin_52 : decode cX2_numberWithin 52 = .ok (.ireturn, 1) := by decide +kernel
theorem dX2_skip_0 : decode cX2_skip 0 = .ok (.aload_n 0, 1) := by decide +kernel
theorem dX2_skip_1 : decode cX2_skip 1 = .ok (.getfield 15, 3) := by decide +kernel
theorem dX2_skip_4 : decode cX2_skip 4 = .ok (.aload_n 1, 1) := by decide +kernel
theorem dX2_skip_5 : decode cX2_skip 5 = .ok (.if_acmp .eq 8, 3) := by decide +kernel
theorem dX2_skip_8 : decode cX2_skip 8 = .ok (.aload_n 0, 1) := by decide +kernel
theorem dX2_skip_9 : decode cX2_skip 9 = .ok (.iconst 1, 1) := by decide +kernel
theorem dX2_skip_10 : decode cX2_skip 10 = .ok (.invokevirtual 78, 3) := by decide +kernel
theorem dX2_skip_13 : decode cX2_skip 13 = .ok (.aload_n 0, 1) := by decide +kernel
theorem dX2_skip_14 : decode cX2_skip 14 = .ok (.invokevirtual 187, 3) := by decide +kernel
theorem dX2_skip_17 : decode cX2_skip 17 = .ok (.return_, 1) := by decide +kernel
theorem dX2_step_0 : decode cX2_step 0 = .ok (.aload_n 0, 1) := by decide +kernel
theorem dX2_step_1 : decode cX2_step 1 = .ok (.getfield 28, 3) := by decide +kernel
theorem dX2_step_4 : decode cX2_step 4 = .ok (.ifCond .ne 45, 3) := by decide +kernel
theorem dX2_step_7 : decode cX2_step 7 = .ok (.aload_n 0, 1) := by decide +kernel
theorem dX2_step_8 : decode cX2_step 8 = .ok (.getfield 32, 3) := by decide +kernel
theorem dX2_step_11 : decode cX2_step 11 = .ok (.iconst 1, 1) := by decide +kernel
theorem dX2_step_12 : decode cX2_step 12 = .ok (.iadd, 1) := by decide +kernel
theorem dX2_step_13 : decode cX2_step 13 = .ok (.aload_n 0, 1) := by decide +kernel
theorem dX2_step_14 : decode cX2_step 14 = .ok (.getfield 20, 3) := by decide +kernel
theorem dX2_step_17 : decode cX2_step 17 = .ok (.getfield 222, 3) := by decide +kernel
theorem dX2_step_20 : decode cX2_step 20 = .ok (.if_icmp .ge 29, 3) := by decide +kernel
theorem dX2_step_23 : decode cX2_step 23 = .ok (.aload_n 0, 1) := by decide +kernel
theorem dX2_step_24 : decode cX2_step 24 = .ok (.dup, 1) := by decide +kernel
theorem dX2_step_25 : decode cX2_step 25 = .ok (.getfield 32, 3) := by decide +kernel
theorem dX2_step_28 : decode cX2_step 28 = .ok (.iconst 1, 1) := by decide +kernel
theorem dX2_step_29 : decode cX2_step 29 = .ok (.iadd, 1) := by decide +kernel
theorem dX2_step_30 : decode cX2_step 30 = .ok (.putfield 32, 3) := by decide +kernel
theorem dX2_step_33 : decode cX2_step 33 = .ok (.aload_n 0, 1) := by decide +kernel
theorem dX2_step_34 : decode cX2_step 34 = .ok (.aload_n 0, 1) := by decide +kernel
theorem dX2_step_35 : decode cX2_step 35 = .ok (.getfield 20, 3) := by decide +kernel
theorem dX2_step_38 : decode cX2_step 38 = .ok (.getfield 35, 3) := by decide +kernel
theorem dX2_step_41 : decode cX2_step 41 = .ok (.aload_n 0, 1) := by decide +kernel
theorem dX2_step_42 : decode cX2_step 42 = .ok (.getfield 32, 3) := by decide +kernel
theorem dX2_step_45 : decode cX2_step 45 = .ok (.aaload, 1) := by decide +kernel
theorem dX2_step_46 : decode cX2_step 46 = .ok (.putfield 15, 3) := by decide +kernel
theorem dX2_step_49 : decode cX2_step 49 = .ok (.return_, 1) := by decide +kernel
theorem dX2_fail_0 : decode cX2_fail 0 = .ok (.aload_n 0, 1) := by decide +kernel
theorem dX2_fail_1 : decode cX2_fail 1 = .ok (.getfield 28, 3) := by decide +kernel
theorem dX2_fail_4 : decode cX2_fail 4 = .ok (.ifCond .ne 24, 3) := by decide +kernel
theorem dX2_fail_7 : decode cX2_fail 7 = .ok (.aload_n 0, 1) := by decide +kernel
theorem dX2_fail_8 : decode cX2_fail 8 = .ok (.iload_n 1, 1) := by decide +kernel
theorem dX2_fail_9 : decode cX2_fail 9 = .ok (.bipush 16, 2) := by decide +kernel
theorem dX2_fail_11 : decode cX2_fail 11 = .ok (.aload_n 0, 1) := by decide +kernel
theorem dX2_fail_12 : decode cX2_fail 12 = .ok (.getfield 20, 3) := by decide +kernel
theorem dX2_fail_15 : decode cX2_fail 15 = .ok (.getfield 223, 3) := by decide +kernel
theorem dX2_fail_18 : decode cX2_fail 18 = .ok (.aload_n 0, 1) := by decide +kernel
theorem dX2_fail_19 : decode cX2_fail 19 = .ok (.getfield 32, 3) := by decide +kernel
theorem dX2_fail_22 : decode cX2_fail 22 = .ok (.iaload, 1) := by decide +kernel
theorem dX2_fail_23 : decode cX2_fail 23 = .ok (.imul, 1) := by decide +kernel
theorem dX2_fail_24 : decode cX2_fail 24 = .ok (.iadd, 1) := by decide +kernel
theorem dX2_fail_25 : decode cX2_fail 25 = .ok (.putfield 28, 3) := by decide +kernel
theorem dX2_fail_28 : decode cX2_fail 28 = .ok (.return_, 1) := by decide +kernel
