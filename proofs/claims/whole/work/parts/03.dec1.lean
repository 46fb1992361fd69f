theorem dX3_init_0 : decode cX3_init 0 = .ok (.aload_n 0, 1) := by decide +kernel
theorem dX3_init_1 : decode cX3_init 1 = .ok (.invokespecial 3, 3) := by decide +kernel
theorem dX3_init_4 : decode cX3_init 4 = .ok (.aload_n 0, 1) := by decide +kernel
theorem dX3_init_5 : decode cX3_init 5 = .ok (.bipush 10, 2) := by decide +kernel
theorem dX3_init_7 : decode cX3_init 7 = .ok (.newarray .int, 2) := by decide +kernel
theorem dX3_init_9 : decode cX3_init 9 = .ok (.putfield 9, 3) := by decide +kernel
theorem dX3_init_12 : decode cX3_init 12 = .ok (.aload_n 0, 1) := by decide +kernel
theorem dX3_init_13 : decode cX3_init 13 = .ok (.bipush 50, 2) := by decide +kernel
theorem dX3_init_15 : decode cX3_init 15 = .ok (.newarray .int, 2) := by decide +kernel
theorem dX3_init_17 : decode cX3_init 17 = .ok (.putfield 15, 3) := by decide +kernel
theorem dX3_init_20 : decode cX3_init 20 = .ok (.aload_n 0, 1) := by decide +kernel
theorem dX3_init_21 : decode cX3_init 21 = .ok (.bipush 50, 2) := by decide +kernel
theorem dX3_init_23 : decode cX3_init 23 = .ok (.newarray .int, 2) := by decide +kernel
theorem dX3_init_25 : decode cX3_init 25 = .ok (.putfield 18, 3) := by decide +kernel
theorem dX3_init_28 : decode cX3_init 28 = .ok (.aload_n 0, 1) := by decide +kernel
theorem dX3_init_29 : decode cX3_init 29 = .ok (.iconst 5, 1) := by decide +kernel
theorem dX3_init_30 : decode cX3_init 30 = .ok (.newarray .int, 2) := by decide +kernel
theorem dX3_init_32 : decode cX3_init 32 = .ok (.putfield 21, 3) := by decide +kernel
theorem dX3_init_35 : decode cX3_init 35 = .ok (.aload_n 0, 1) := by decide +kernel
theorem dX3_init_36 : decode cX3_init 36 = .ok (.bipush 6, 2) := by decide +kernel
theorem dX3_init_38 : decode cX3_init 38 = .ok (.newarray .int, 2) := by decide +kernel
theorem dX3_init_40 : decode cX3_init 40 = .ok (.putfield 24, 3) := by decide +kernel
theorem dX3_init_43 : decode cX3_init 43 = .ok (.aload_n 0, 1) := by decide +kernel
theorem dX3_init_44 : decode cX3_init 44 = .ok (.bipush 6, 2) := by decide +kernel
theorem dX3_init_46 : decode cX3_init 46 = .ok (.newarray .int, 2) := by decide +kernel
theorem dX3_init_48 : decode cX3_init 48 = .ok (.putfield 27, 3) := by decide +kernel
theorem dX3_init_51 : decode cX3_init 51 = .ok (.aload_n 0, 1) := by decide +kernel
theorem dX3_init_52 : decode cX3_init 52 = .ok (.iconst 5, 1) := by decide +kernel
theorem dX3_init_53 : decode cX3_init 53 = .ok (.newarray .int, 2) := by decide +kernel
theorem dX3_init_55 : decode cX3_init 55 = .ok (.putfield 30, 3) := by decide +kernel
theorem dX3_init_58 : decode cX3_init 58 = .ok (.aload_n 0, 1) := by decide +kernel
theorem dX3_init_59 : decode cX3_init 59 = .ok (.iload_n 1, 1) := by decide +kernel
theorem dX3_init_60 : decode cX3_init 60 = .ok (.ifCond .le 7, 3) := by decide +kernel
theorem dX3_init_63 : decode cX3_init 63 = .ok (.iload_n 1, 1) := by decide +kernel
theorem dX3_init_64 : decode cX3_init 64 = .ok (.goto 4, 3) := by decide +kernel
theorem dX3_init_67 : decode cX3_init 67 = .ok (.iconst 0, 1) := by decide +kernel
theorem dX3_init_68 : decode cX3_init 68 = .ok (.putfield 33, 3) := by decide +kernel
theorem dX3_init_71 : decode cX3_init 71 = .ok (.aload_n 0, 1) := by decide +kernel
theorem dX3_init_72 : decode cX3_init 72 = .ok (.aload_n 0, 1) := by decide +kernel
theorem dX3_init_73 : decode cX3_init 73 = .ok (.getfield 33, 3) := by decide +kernel
theorem dX3_init_76 : decode cX3_init 76 = .ok (.bipush 10, 2) := by decide +kernel
theorem dX3_init_78 : decode cX3_init 78 = .ok (.imul, 1) := by decide +kernel
theorem dX3_init_79 : decode cX3_init 79 = .ok (.iconst 5, 1) := by decide +kernel
theorem dX3_init_80 : decode cX3_init 80 = .ok (.imul, 1) := by decide +kernel
theorem dX3_init_81 : decode cX3_init 81 = .ok (.newarray .int, 2) := by decide +kernel
theorem dX3_init_83 : decode cX3_init 83 = .ok (.putfield 37, 3) := by decide +kernel
theorem dX3_init_86 : decode cX3_init 86 = .ok (.return_, 1) := by decide +kernel
theorem dX3_begin_0 : decode cX3_begin 0 = .ok (.aload_n 0, 1) := by decide +kernel
theorem dX3_begin_1 : decode cX3_begin 1 = .ok (.iconst 0, 1) := by decide +kernel
theorem dX3_begin_2 : decode cX3_begin 2 = .ok (.putfield 40, 3) := by decide +kernel
theorem dX3_begin_5 : decode cX3_begin 5 = .ok (.aload_n 1, 1) := by decide +kernel
theorem dX3_begin_6 : decode cX3_begin 6 = .ok (.getfield 43, 3) := by decide +kernel
theorem dX3_begin_9 : decode cX3_begin 9 = .ok (.iconst 0, 1) := by decide +kernel
theorem dX3_begin_10 : decode cX3_begin 10 = .ok (.aload_n 0, 1) := by decide +kernel
theorem dX3_begin_11 : decode cX3_begin 11 = .ok (.getfield 9, 3) := by decide +kernel
theorem dX3_begin_14 : decode cX3_begin 14 = .ok (.iconst 0, 1) := by decide +kernel
theorem dX3_begin_15 : decode cX3_begin 15 = .ok (.bipush 10, 2) := by decide +kernel
theorem dX3_begin_17 : decode cX3_begin 17 = .ok (.invokestatic 48, 3) := by decide +kernel
theorem dX3_begin_20 : decode cX3_begin 20 = .ok (.aload_n 0, 1) := by decide +kernel
theorem dX3_begin_21 : decode cX3_begin 21 = .ok (.getfield 15, 3) := by decide +kernel
theorem dX3_begin_24 : decode cX3_begin 24 = .ok (.iconst 0, 1) := by decide +kernel
theorem dX3_begin_25 : decode cX3_begin 25 = .ok (.invokestatic 54, 3) := by decide +kernel
theorem dX3_begin_28 : decode cX3_begin 28 = .ok (.aload_n 0, 1) := by decide +kernel
theorem dX3_begin_29 : decode cX3_begin 29 = .ok (.getfield 18, 3) := by decide +kernel
theorem dX3_begin_32 : decode cX3_begin 32 = .ok (.iconst 0, 1) := by decide +kernel
theorem dX3_begin_33 : decode cX3_begin 33 = .ok (.invokestatic 54, 3) := by decide +kernel
theorem dX3_begin_36 : decode cX3_begin 36 = .ok (.aload_n 0, 1) := by decide +kernel
theorem dX3_begin_37 : decode cX3_begin 37 = .ok (.getfield 21, 3) := by decide +kernel
theorem dX3_begin_40 : decode cX3_begin 40 = .ok (.iconst 0, 1) := by decide +kernel
theorem dX3_begin_41 : decode cX3_begin 41 = .ok (.invokestatic 54, 3) := by decide +kernel
theorem dX3_begin_44 : decode cX3_begin 44 = .ok (.aload_n 0, 1) := by decide +kernel
theorem dX3_begin_45 : decode cX3_begin 45 = .ok (.getfield 24, 3) := by decide +kernel
theorem dX3_begin_48 : decode cX3_begin 48 = .ok (.iconst (-1), 1) := by decide +kernel
theorem dX3_begin_49 : decode cX3_begin 49 = .ok (.invokestatic 54, 3) := by decide +kernel
theorem dX3_begin_52 : decode cX3_begin 52 = .ok (.aload_n 0, 1) := by decide +kernel
theorem dX3_begin_53 : decode cX3_begin 53 = .ok (.getfield 27, 3) := by decide +kernel
theorem dX3_begin_56 : decode cX3_begin 56 = .ok (.iconst 0, 1) := by decide +kernel
theorem dX3_begin_57 : decode cX3_begin 57 = .ok (.invokestatic 54, 3) := by decide +kernel
theorem dX3_begin_60 : decode cX3_begin 60 = .ok (.aload_n 0, 1) := by decide +kernel
theorem dX3_begin_61 : decode cX3_begin 61 = .ok (.getfield 30, 3) := by decide +kernel
theorem dX3_begin_64 : decode cX3_begin 64 = .ok (.iconst 0, 1) := by decide +kernel
theorem dX3_begin_65 : decode cX3_begin 65 = .ok (.invokestatic 54, 3) := by decide +kernel
theorem dX3_begin_68 : decode cX3_begin 68 = .ok (.return_, 1) := by decide +kernel
theorem dX3_takeRoads_0 : decode cX3_takeRoads 0 = .ok (.aload_n 0, 1) := by decide +kernel
theorem dX3_takeRoads_1 : decode cX3_takeRoads 1 = .ok (.aload_n 1, 1) := by decide +kernel
theorem dX3_takeRoads_2 : decode cX3_takeRoads 2 = .ok (.getfield 40, 3) := by decide +kernel
theorem dX3_takeRoads_5 : decode cX3_takeRoads 5 = .ok (.putfield 40, 3) := by decide +kernel
theorem dX3_takeRoads_8 : decode cX3_takeRoads 8 = .ok (.aload_n 1, 1) := by decide +kernel
theorem dX3_takeRoads_9 : decode cX3_takeRoads 9 = .ok (.getfield 9, 3) := by decide +kernel
theorem dX3_takeRoads_12 : decode cX3_takeRoads 12 = .ok (.iconst 0, 1) := by decide +kernel
theorem dX3_takeRoads_13 : decode cX3_takeRoads 13 = .ok (.aload_n 0, 1) := by decide +kernel
theorem dX3_takeRoads_14 : decode cX3_takeRoads 14 = .ok (.getfield 9, 3) := by decide +kernel
theorem dX3_takeRoads_17 : decode cX3_takeRoads 17 = .ok (.iconst 0, 1) := by decide +kernel
theorem dX3_takeRoads_18 : decode cX3_takeRoads 18 = .ok (.bipush 10, 2) := by decide +kernel
theorem dX3_takeRoads_20 : decode cX3_takeRoads 20 = .ok (.invokestatic 48, 3) := by decide +kernel
theorem dX3_takeRoads_23 : decode cX3_takeRoads 23 = .ok (.aload_n 1, 1) := by decide +kernel
theorem dX3_takeRoads_24 : decode cX3_takeRoads 24 = .ok (.getfield 15, 3) := by decide +kernel
theorem dX3_takeRoads_27 : decode cX3_takeRoads 27 = .ok (.iconst 0, 1) := by decide +kernel
theorem dX3_takeRoads_28 : decode cX3_takeRoads 28 = .ok (.aload_n 0, 1) := by decide +kernel
theorem dX3_takeRoads_29 : decode cX3_takeRoads 29 = .ok (.getfield 15, 3) := by decide +kernel
theorem dX3_takeRoads_32 : decode cX3_takeRoads 32 = .ok (.iconst 0, 1) := by decide +kernel
theorem dX3_takeRoads_33 : decode cX3_takeRoads 33 = .ok (.bipush 50, 2) := by decide +kernel
theorem dX3_takeRoads_35 : decode cX3_takeRoads 35 = .ok (.invokestatic 48, 3) := by decide +kernel
theorem dX3_takeRoads_38 : decode cX3_takeRoads 38 = .ok (.aload_n 1, 1) := by decide +kernel
theorem dX3_takeRoads_39 : decode cX3_takeRoads 39 = .ok (.getfield 18, 3) := by decide +kernel
theorem dX3_takeRoads_42 : decode cX3_takeRoads 42 = .ok (.iconst 0, 1) := by decide +kernel
theorem dX3_takeRoads_43 : decode cX3_takeRoads 43 = .ok (.aload_n 0, 1) := by decide +kernel
theorem dX3_takeRoads_44 : decode cX3_takeRoads 44 = .ok (.getfield 18, 3) := by decide +kernel
theorem dX3_takeRoads_47 : decode cX3_takeRoads 47 = .ok (.iconst 0, 1) := by decide +kernel
theorem dX3_takeRoads_48 : decode cX3_takeRoads 48 = .ok (.bipush 50, 2) := by decide +kernel
theorem dX3_takeRoads_50 : decode cX3_takeRoads 50 = .ok (.invokestatic 48, 3) := by decide +kernel
theorem dX3_takeRoads_53 : decode cX3_takeRoads 53 = .ok (.aload_n 1, 1) := by decide +kernel
theorem dX3_takeRoads_54 : decode cX3_takeRoads 54 = .ok (.getfield 21, 3) := by decide +kernel
theorem dX3_takeRoads_57 : decode cX3_takeRoads 57 = .ok (.iconst 0, 1) := by decide +kernel
theorem dX3_takeRoads_58 : decode cX3_takeRoads 58 = .ok (.aload_n 0, 1) := by decide +kernel
theorem dX3_takeRoads_59 : decode cX3_takeRoads 59 = .ok (.getfield 21, 3) := by decide +kernel
theorem dX3_takeRoads_62 : decode cX3_takeRoads 62 = .ok (.iconst 0, 1) := by decide +kernel
theorem dX3_takeRoads_63 : decode cX3_takeRoads 63 = .ok (.iconst 5, 1) := by decide +kernel
theorem dX3_takeRoads_64 : decode cX3_takeRoads 64 = .ok (.invokestatic 48, 3) := by decide +kernel
theorem dX3_takeRoads_67 : decode cX3_takeRoads 67 = .ok (.aload_n 1, 1) := by decide +kernel
theorem dX3_takeRoads_68 : decode cX3_takeRoads 68 = .ok (.getfield 24, 3) := by decide +kernel
theorem dX3_takeRoads_71 : decode cX3_takeRoads 71 = .ok (.iconst 0, 1) := by decide +kernel
theorem dX3_takeRoads_72 : decode cX3_takeRoads 72 = .ok (.aload_n 0, 1) := by decide +kernel
theorem dX3_takeRoads_73 : decode cX3_takeRoads 73 = .ok (.getfield 24, 3) := by decide +kernel
theorem dX3_takeRoads_76 : decode cX3_takeRoads 76 = .ok (.iconst 0, 1) := by decide +kernel
theorem dX3_takeRoads_77 : decode cX3_takeRoads 77 = .ok (.bipush 6, 2) := by decide +kernel
theorem dX3_takeRoads_79 : decode cX3_takeRoads 79 = .ok (.invokestatic 48, 3) := by decide +kernel
theorem dX3_takeRoads_82 : decode cX3_takeRoads 82 = .ok (.aload_n 1, 1) := by decide +kernel
theorem dX3_takeRoads_83 : decode cX3_takeRoads 83 = .ok (.getfield 27, 3) := by decide +kernel
theorem dX3_takeRoads_86 : decode cX3_takeRoads 86 = .ok (.iconst 0, 1) := by decide +kernel
theorem dX3_takeRoads_87 : decode cX3_takeRoads 87 = .ok (.aload_n 0, 1) := by decide +kernel
theorem dX3_takeRoads_88 : decode cX3_takeRoads 88 = .ok (.getfield 27, 3) := by decide +kernel
theorem dX3_takeRoads_91 : decode cX3_takeRoads 91 = .ok (.iconst 0, 1) := by decide +kernel
theorem dX3_takeRoads_92 : decode cX3_takeRoads 92 = .ok (.bipush 6, 2) := by decide +kernel
theorem dX3_takeRoads_94 : decode cX3_takeRoads 94 = .ok (.invokestatic 48, 3) := by decide +kernel
theorem dX3_takeRoads_97 : decode cX3_takeRoads 97 = .ok (.return_, 1) := by decide +kernel
theorem dX3_takeAll_0 : decode cX3_takeAll 0 = .ok (.aload_n 0, 1) := by decide +kernel
theorem dX3_takeAll_1 : decode cX3_takeAll 1 = .ok (.aload_n 1, 1) := by decide +kernel
theorem dX3_takeAll_2 : decode cX3_takeAll 2 = .ok (.invokevirtual 60, 3) := by decide +kernel
theorem dX3_takeAll_5 : decode cX3_takeAll 5 = .ok (.aload_n 1, 1) := by decide +kernel
theorem dX3_takeAll_6 : decode cX3_takeAll 6 = .ok (.getfield 30, 3) := by decide +kernel
theorem dX3_takeAll_9 : decode cX3_takeAll 9 = .ok (.iconst 0, 1) := by decide +kernel
theorem dX3_takeAll_10 : decode cX3_takeAll 10 = .ok (.aload_n 0, 1) := by decide +kernel
theorem dX3_takeAll_11 : decode cX3_takeAll 11 = .ok (.getfield 30, 3) := by decide +kernel
theorem dX3_takeAll_14 : decode cX3_takeAll 14 = .ok (.iconst 0, 1) := by decide +kernel
theorem dX3_takeAll_15 : decode cX3_takeAll 15 = .ok (.iconst 5, 1) := by decide +kernel
theorem dX3_takeAll_16 : decode cX3_takeAll 16 = .ok (.invokestatic 48, 3) := by decide +kernel
theorem dX3_takeAll_19 : decode cX3_takeAll 19 = .ok (.aload_n 1, 1) := by decide +kernel
theorem dX3_takeAll_20 : decode cX3_takeAll 20 = .ok (.getfield 37, 3) := by decide +kernel
theorem dX3_takeAll_23 : decode cX3_takeAll 23 = .ok (.iconst 0, 1) := by decide +kernel
theorem dX3_takeAll_24 : decode cX3_takeAll 24 = .ok (.aload_n 0, 1) := by decide +kernel
theorem dX3_takeAll_25 : decode cX3_takeAll 25 = .ok (.getfield 37, 3) := by decide +kernel
theorem dX3_takeAll_28 : decode cX3_takeAll 28 = .ok (.iconst 0, 1) := by decide +kernel
theorem dX3_takeAll_29 : decode cX3_takeAll 29 = .ok (.aload_n 0, 1) := by decide +kernel
theorem dX3_takeAll_30 : decode cX3_takeAll 30 = .ok (.getfield 37, 3) := by decide +kernel
theorem dX3_takeAll_33 : decode cX3_takeAll 33 = .ok (.arraylength, 1) := by decide +kernel
theorem dX3_takeAll_34 : decode cX3_takeAll 34 = .ok (.aload_n 1, 1) := by decide +kernel
theorem dX3_takeAll_35 : decode cX3_takeAll 35 = .ok (.getfield 37, 3) := by decide +kernel
theorem dX3_takeAll_38 : decode cX3_takeAll 38 = .ok (.arraylength, 1) := by decide +kernel
theorem dX3_takeAll_39 : decode cX3_takeAll 39 = .ok (.invokestatic 64, 3) := by decide +kernel
theorem dX3_takeAll_42 : decode cX3_takeAll 42 = .ok (.invokestatic 48, 3) := by decide +kernel
theorem dX3_takeAll_45 : decode cX3_takeAll 45 = .ok (.return_, 1) := by decide +kernel
theorem dX3_isWorn_0 : decode cX3_isWorn 0 = .ok (.aload_n 0, 1) := by decide +kernel
theorem dX3_isWorn_1 : decode cX3_isWorn 1 = .ok (.getfield 9, 3) := by decide +kernel
theorem dX3_isWorn_4 : decode cX3_isWorn 4 = .ok (.iload_n 1, 1) := by decide +kernel
theorem dX3_isWorn_5 : decode cX3_isWorn 5 = .ok (.iaload, 1) := by decide +kernel
theorem dX3_isWorn_6 : decode cX3_isWorn 6 = .ok (.sipush 1000, 3) := by decide +kernel
theorem dX3_isWorn_9 : decode cX3_isWorn 9 = .ok (.if_icmp .lt 7, 3) := by decide +kernel
theorem dX3_isWorn_12 : decode cX3_isWorn 12 = .ok (.iconst 1, 1) := by decide +kernel
theorem dX3_isWorn_13 : decode cX3_isWorn 13 = .ok (.goto 4, 3) := by decide +kernel
theorem dX3_isWorn_16 : decode cX3_isWorn 16 = .ok (.iconst 0, 1) := by decide +kernel
theorem dX3_isWorn_17 : decode cX3_isWorn 17 = .ok (.ireturn, 1) := by decide +kernel
theorem dX3_mean_0 : decode cX3_mean 0 = .ok (.lconst 0, 1) := by decide +kernel
theorem dX3_mean_1 : decode cX3_mean 1 = .ok (.lstore_n 3, 1) := by decide +kernel
theorem dX3_mean_2 : decode cX3_mean 2 = .ok (.lconst 0, 1) := by decide +kernel
theorem dX3_mean_3 : decode cX3_mean 3 = .ok (.lstore 5, 2) := by decide +kernel
theorem dX3_mean_5 : decode cX3_mean 5 = .ok (.iconst 0, 1) := by decide +kernel
theorem dX3_mean_6 : decode cX3_mean 6 = .ok (.istore 7, 2) := by decide +kernel
theorem dX3_mean_8 : decode cX3_mean 8 = .ok (.iload 7, 2) := by decide +kernel
theorem dX3_mean_10 : decode cX3_mean 10 = .ok (.iconst 5, 1) := by decide +kernel
theorem dX3_mean_11 : decode cX3_mean 11 = .ok (.if_icmp .ge 42, 3) := by decide +kernel
theorem dX3_mean_14 : decode cX3_mean 14 = .ok (.aload_n 0, 1) := by decide +kernel
theorem dX3_mean_15 : decode cX3_mean 15 = .ok (.getfield 15, 3) := by decide +kernel
theorem dX3_mean_18 : decode cX3_mean 18 = .ok (.iload_n 1, 1) := by decide +kernel
theorem dX3_mean_19 : decode cX3_mean 19 = .ok (.iload 7, 2) := by decide +kernel
theorem dX3_mean_21 : decode cX3_mean 21 = .ok (.invokestatic 70, 3) := by decide +kernel
theorem dX3_mean_24 : decode cX3_mean 24 = .ok (.iaload, 1) := by decide +kernel
theorem dX3_mean_25 : decode cX3_mean 25 = .ok (.istore 8, 2) := by decide +kernel
theorem dX3_mean_27 : decode cX3_mean 27 = .ok (.lload_n 3, 1) := by decide +kernel
theorem dX3_mean_28 : decode cX3_mean 28 = .ok (.iload 8, 2) := by decide +kernel
theorem dX3_mean_30 : decode cX3_mean 30 = .ok (.i2l, 1) := by decide +kernel
theorem dX3_mean_31 : decode cX3_mean 31 = .ok (.ladd, 1) := by decide +kernel
theorem dX3_mean_32 : decode cX3_mean 32 = .ok (.lstore_n 3, 1) := by decide +kernel
theorem dX3_mean_33 : decode cX3_mean 33 = .ok (.lload 5, 2) := by decide +kernel
theorem dX3_mean_35 : decode cX3_mean 35 = .ok (.iload 8, 2) := by decide +kernel
theorem dX3_mean_37 : decode cX3_mean 37 = .ok (.i2l, 1) := by decide +kernel
theorem dX3_mean_38 : decode cX3_mean 38 = .ok (.aload_n 2, 1) := by decide +kernel
theorem dX3_mean_39 : decode cX3_mean 39 = .ok (.iload 7, 2) := by decide +kernel
theorem dX3_mean_41 : decode cX3_mean 41 = .ok (.iaload, 1) := by decide +kernel
theorem dX3_mean_42 : decode cX3_mean 42 = .ok (.i2l, 1) := by decide +kernel
theorem dX3_mean_43 : decode cX3_mean 43 = .ok (.lmul, 1) := by decide +kernel
theorem dX3_mean_44 : decode cX3_mean 44 = .ok (.ladd, 1) := by decide +kernel
theorem dX3_mean_45 : decode cX3_mean 45 = .ok (.lstore 5, 2) := by decide +kernel
theorem dX3_mean_47 : decode cX3_mean 47 = .ok (.iinc 7 1, 3) := by decide +kernel
theorem dX3_mean_50 : decode cX3_mean 50 = .ok (.goto (-42), 3) := by decide +kernel
theorem dX3_mean_53 : decode cX3_mean 53 = .ok (.lload_n 3, 1) := by decide +kernel
theorem dX3_mean_54 : decode cX3_mean 54 = .ok (.lconst 0, 1) := by decide +kernel
theorem dX3_mean_55 : decode cX3_mean 55 = .ok (.lcmp, 1) := by decide +kernel
theorem dX3_mean_56 : decode cX3_mean 56 = .ok (.ifCond .le 11, 3) := by decide +kernel
theorem dX3_mean_59 : decode cX3_mean 59 = .ok (.lload 5, 2) := by decide +kernel
theorem dX3_mean_61 : decode cX3_mean 61 = .ok (.lload_n 3, 1) := by decide +kernel
theorem dX3_mean_62 : decode cX3_mean 62 = .ok (.ldiv, 1) := by decide +kernel
theorem dX3_mean_63 : decode cX3_mean 63 = .ok (.l2i, 1) := by decide +kernel
theorem dX3_mean_64 : decode cX3_mean 64 = .ok (.goto 4, 3) := by decide +kernel
theorem dX3_mean_67 : decode cX3_mean 67 = .ok (.iconst 0, 1) := by decide +kernel
theorem dX3_mean_68 : decode cX3_mean 68 = .ok (.ireturn, 1) := by decide +kernel
theorem dX3_keeps_0 : decode cX3_keeps 0 = .ok (.iload_n 1, 1) := by decide +kernel
theorem dX3_keeps_1 : decode cX3_keeps 1 = .ok (.ifCond .lt 15, 3) := by decide +kernel
theorem dX3_keeps_4 : decode cX3_keeps 4 = .ok (.iload_n 1, 1) := by decide +kernel
theorem dX3_keeps_5 : decode cX3_keeps 5 = .ok (.aload_n 0, 1) := by decide +kernel
theorem dX3_keeps_6 : decode cX3_keeps 6 = .ok (.getfield 33, 3) := by decide +kernel
theorem dX3_keeps_9 : decode cX3_keeps 9 = .ok (.if_icmp .ge 7, 3) := by decide +kernel
theorem dX3_keeps_12 : decode cX3_keeps 12 = .ok (.iconst 1, 1) := by decide +kernel
theorem dX3_keeps_13 : decode cX3_keeps 13 = .ok (.goto 4, 3) := by decide +kernel
theorem dX3_keeps_16 : decode cX3_keeps 16 = .ok (.iconst 0, 1) := by decide +kernel
theorem dX3_keeps_17 : decode cX3_keeps 17 = .ok (.ireturn, 1) := by decide +kernel
theorem dX3_keepLayer_0 : decode cX3_keepLayer 0 = .ok (.aload_n 0, 1) := by decide +kernel
theorem dX3_keepLayer_1 : decode cX3_keepLayer 1 = .ok (.aload_n 0, 1) := by decide +kernel
theorem dX3_keepLayer_2 : decode cX3_keepLayer 2 = .ok (.getfield 40, 3) := by decide +kernel
theorem dX3_keepLayer_5 : decode cX3_keepLayer 5 = .ok (.invokevirtual 73, 3) := by decide +kernel
theorem dX3_keepLayer_8 : decode cX3_keepLayer 8 = .ok (.ifCond .eq 18, 3) := by decide +kernel
theorem dX3_keepLayer_11 : decode cX3_keepLayer 11 = .ok (.aload_n 0, 1) := by decide +kernel
theorem dX3_keepLayer_12 : decode cX3_keepLayer 12 = .ok (.getfield 37, 3) := by decide +kernel
theorem dX3_keepLayer_15 : decode cX3_keepLayer 15 = .ok (.aload_n 0, 1) := by decide +kernel
theorem dX3_keepLayer_16 : decode cX3_keepLayer 16 = .ok (.getfield 40, 3) := by decide +kernel
theorem dX3_keepLayer_19 : decode cX3_keepLayer 19 = .ok (.iload_n 1, 1) := by decide +kernel
theorem dX3_keepLayer_20 : decode cX3_keepLayer 20 = .ok (.iload_n 2, 1) := by decide +kernel
theorem dX3_keepLayer_21 : decode cX3_keepLayer 21 = .ok (.invokestatic 77, 3) := by decide +kernel
theorem dX3_keepLayer_24 : decode cX3_keepLayer 24 = .ok (.iload_n 3, 1) := by decide +kernel
theorem dX3_keepLayer_25 : decode cX3_keepLayer 25 = .ok (.iastore, 1) := by decide +kernel
theorem dX3_keepLayer_26 : decode cX3_keepLayer 26 = .ok (.return_, 1) := by decide +kernel
theorem dX3_layerCell_0 : decode cX3_layerCell 0 = .ok (.iload_n 0, 1) := by decide +kernel
theorem dX3_layerCell_1 : decode cX3_layerCell 1 = .ok (.bipush 10, 2) := by decide +kernel
theorem dX3_layerCell_3 : decode cX3_layerCell 3 = .ok (.imul, 1) := by decide +kernel
theorem dX3_layerCell_4 : decode cX3_layerCell 4 = .ok (.iconst 5, 1) := by decide +kernel
theorem dX3_layerCell_5 : decode cX3_layerCell 5 = .ok (.imul, 1) := by decide +kernel
theorem dX3_layerCell_6 : decode cX3_layerCell 6 = .ok (.iload_n 1, 1) := by decide +kernel
theorem dX3_layerCell_7 : decode cX3_layerCell 7 = .ok (.iload_n 2, 1) := by decide +kernel
theorem dX3_layerCell_8 : decode cX3_layerCell 8 = .ok (.invokestatic 70, 3) := by decide +kernel
theorem dX3_layerCell_11 : decode cX3_layerCell 11 = .ok (.iadd, 1) := by decide +kernel
theorem dX3_layerCell_12 : decode cX3_layerCell 12 = .ok (.ireturn, 1) := by decide +kernel
theorem dX4_init_0 : decode cX4_init 0 = .ok (.aload_n 0, 1) := by decide +kernel
theorem dX4_init_1 : decode cX4_init 1 = .ok (.invokespecial 3, 3) := by decide +kernel
theorem dX4_init_4 : decode cX4_init 4 = .ok (.aload_n 0, 1) := by decide +kernel
theorem dX4_init_5 : decode cX4_init 5 = .ok (.bipush 8, 2) := by decide +kernel
theorem dX4_init_7 : decode cX4_init 7 = .ok (.newarray .int, 2) := by decide +kernel
theorem dX4_init_9 : decode cX4_init 9 = .ok (.putfield 9, 3) := by decide +kernel
theorem dX4_init_12 : decode cX4_init 12 = .ok (.aload_n 0, 1) := by decide +kernel
theorem dX4_init_13 : decode cX4_init 13 = .ok (.bipush 32, 2) := by decide +kernel
theorem dX4_init_15 : decode cX4_init 15 = .ok (.newarray .int, 2) := by decide +kernel
theorem dX4_init_17 : decode cX4_init 17 = .ok (.putfield 15, 3) := by decide +kernel
theorem dX4_init_20 : decode cX4_init 20 = .ok (.aload_n 0, 1) := by decide +kernel
theorem dX4_init_21 : decode cX4_init 21 = .ok (.bipush 10, 2) := by decide +kernel
theorem dX4_init_23 : decode cX4_init 23 = .ok (.newarray .int, 2) := by decide +kernel
theorem dX4_init_25 : decode cX4_init 25 = .ok (.putfield 18, 3) := by decide +kernel
theorem dX4_init_28 : decode cX4_init 28 = .ok (.aload_n 0, 1) := by decide +kernel
theorem dX4_init_29 : decode cX4_init 29 = .ok (.bipush 10, 2) := by decide +kernel
theorem dX4_init_31 : decode cX4_init 31 = .ok (.newarray .int, 2) := by decide +kernel
theorem dX4_init_33 : decode cX4_init 33 = .ok (.putfield 21, 3) := by decide +kernel
theorem dX4_init_36 : decode cX4_init 36 = .ok (.aload_n 0, 1) := by decide +kernel
theorem dX4_init_37 : decode cX4_init 37 = .ok (.bipush 10, 2) := by decide +kernel
theorem dX4_init_39 : decode cX4_init 39 = .ok (.newarray .int, 2) := by decide +kernel
theorem dX4_init_41 : decode cX4_init 41 = .ok (.putfield 24, 3) := by decide +kernel
theorem dX4_init_44 : decode cX4_init 44 = .ok (.aload_n 0, 1) := by decide +kernel
theorem dX4_init_45 : decode cX4_init 45 = .ok (.bipush 50, 2) := by decide +kernel
theorem dX4_init_47 : decode cX4_init 47 = .ok (.newarray .int, 2) := by decide +kernel
theorem dX4_init_49 : decode cX4_init 49 = .ok (.putfield 27, 3) := by decide +kernel
theorem dX4_init_52 : decode cX4_init 52 = .ok (.aload_n 0, 1) := by decide +kernel
theorem dX4_init_53 : decode cX4_init 53 = .ok (.aload_n 1, 1) := by decide +kernel
theorem dX4_init_54 : decode cX4_init 54 = .ok (.putfield 30, 3) := by decide +kernel
theorem dX4_init_57 : decode cX4_init 57 = .ok (.return_, 1) := by decide +kernel
theorem dX4_look_0 : decode cX4_look 0 = .ok (.iconst 0, 1) := by decide +kernel
theorem dX4_look_1 : decode cX4_look 1 = .ok (.istore_n 2, 1) := by decide +kernel
theorem dX4_look_2 : decode cX4_look 2 = .ok (.iload_n 2, 1) := by decide +kernel
theorem dX4_look_3 : decode cX4_look 3 = .ok (.aload_n 0, 1) := by decide +kernel
theorem dX4_look_4 : decode cX4_look 4 = .ok (.getfield 30, 3) := by decide +kernel
theorem dX4_look_7 : decode cX4_look 7 = .ok (.getfield 34, 3) := by decide +kernel
theorem dX4_look_10 : decode cX4_look 10 = .ok (.if_icmp .ge 57, 3) := by decide +kernel
theorem dX4_look_13 : decode cX4_look 13 = .ok (.aload_n 0, 1) := by decide +kernel
theorem dX4_look_14 : decode cX4_look 14 = .ok (.getfield 18, 3) := by decide +kernel
theorem dX4_look_17 : decode cX4_look 17 = .ok (.iload_n 2, 1) := by decide +kernel
theorem dX4_look_18 : decode cX4_look 18 = .ok (.aload_n 1, 1) := by decide +kernel
theorem dX4_look_19 : decode cX4_look 19 = .ok (.getfield 40, 3) := by decide +kernel
theorem dX4_look_22 : decode cX4_look 22 = .ok (.iload_n 2, 1) := by decide +kernel
theorem dX4_look_23 : decode cX4_look 23 = .ok (.iaload, 1) := by decide +kernel
theorem dX4_look_24 : decode cX4_look 24 = .ok (.iastore, 1) := by decide +kernel
theorem dX4_look_25 : decode cX4_look 25 = .ok (.aload_n 0, 1) := by decide +kernel
theorem dX4_look_26 : decode cX4_look 26 = .ok (.getfield 21, 3) := by decide +kernel
theorem dX4_look_29 : decode cX4_look 29 = .ok (.iload_n 2, 1) := by decide +kernel
theorem dX4_look_30 : decode cX4_look 30 = .ok (.aload_n 1, 1) := by decide +kernel
theorem dX4_look_31 : decode cX4_look 31 = .ok (.iload_n 2, 1) := by decide +kernel
theorem dX4_look_32 : decode cX4_look 32 = .ok (.aload_n 0, 1) := by decide +kernel
theorem dX4_look_33 : decode cX4_look 33 = .ok (.getfield 30, 3) := by decide +kernel
theorem dX4_look_36 : decode cX4_look 36 = .ok (.getfield 43, 3) := by decide +kernel
theorem dX4_look_39 : decode cX4_look 39 = .ok (.invokevirtual 44, 3) := by decide +kernel
theorem dX4_look_42 : decode cX4_look 42 = .ok (.iastore, 1) := by decide +kernel
theorem dX4_look_43 : decode cX4_look 43 = .ok (.aload_n 0, 1) := by decide +kernel
theorem dX4_look_44 : decode cX4_look 44 = .ok (.getfield 24, 3) := by decide +kernel
theorem dX4_look_47 : decode cX4_look 47 = .ok (.iload_n 2, 1) := by decide +kernel
theorem dX4_look_48 : decode cX4_look 48 = .ok (.aload_n 1, 1) := by decide +kernel
theorem dX4_look_49 : decode cX4_look 49 = .ok (.iload_n 2, 1) := by decide +kernel
theorem dX4_look_50 : decode cX4_look 50 = .ok (.aload_n 0, 1) := by decide +kernel
theorem dX4_look_51 : decode cX4_look 51 = .ok (.getfield 30, 3) := by decide +kernel
theorem dX4_look_54 : decode cX4_look 54 = .ok (.getfield 48, 3) := by decide +kernel
theorem dX4_look_57 : decode cX4_look 57 = .ok (.invokevirtual 44, 3) := by decide +kernel
theorem dX4_look_60 : decode cX4_look 60 = .ok (.iastore, 1) := by decide +kernel
theorem dX4_look_61 : decode cX4_look 61 = .ok (.iinc 2 1, 3) := by decide +kernel
theorem dX4_look_64 : decode cX4_look 64 = .ok (.goto (-62), 3) := by decide +kernel
theorem dX4_look_67 : decode cX4_look 67 = .ok (.aload_n 0, 1) := by decide +kernel
theorem dX4_look_68 : decode cX4_look 68 = .ok (.getfield 27, 3) := by decide +kernel
theorem dX4_look_71 : decode cX4_look 71 = .ok (.iconst (-1), 1) := by decide +kernel
theorem dX4_look_72 : decode cX4_look 72 = .ok (.invokestatic 49, 3) := by decide +kernel
theorem dX4_look_75 : decode cX4_look 75 = .ok (.return_, 1) := by decide +kernel
theorem dX4_isWorn_0 : decode cX4_isWorn 0 = .ok (.aload_n 0, 1) := by decide +kernel
theorem dX4_isWorn_1 : decode cX4_isWorn 1 = .ok (.getfield 18, 3) := by decide +kernel
theorem dX4_isWorn_4 : decode cX4_isWorn 4 = .ok (.iload_n 1, 1) := by decide +kernel
theorem dX4_isWorn_5 : decode cX4_isWorn 5 = .ok (.iaload, 1) := by decide +kernel
theorem dX4_isWorn_6 : decode cX4_isWorn 6 = .ok (.sipush 1000, 3) := by decide +kernel
theorem dX4_isWorn_9 : decode cX4_isWorn 9 = .ok (.if_icmp .lt 7, 3) := by decide +kernel
theorem dX4_isWorn_12 : decode cX4_isWorn 12 = .ok (.iconst 1, 1) := by decide +kernel
theorem dX4_isWorn_13 : decode cX4_isWorn 13 = .ok (.goto 4, 3) := by decide +kernel
theorem dX4_isWorn_16 : decode cX4_isWorn 16 = .ok (.iconst 0, 1) := by decide +kernel
theorem dX4_isWorn_17 : decode cX4_isWorn 17 = .ok (.ireturn, 1) := by decide +kernel
theorem dX4_priceOf_0 : decode cX4_priceOf 0 = .ok (.aload_n 0, 1) := by decide +kernel
theorem dX4_priceOf_1 : decode cX4_priceOf 1 = .ok (.iload_n 1, 1) := by decide +kernel
theorem dX4_priceOf_2 : decode cX4_priceOf 2 = .ok (.invokevirtual 55, 3) := by decide +kernel
theorem dX4_priceOf_5 : decode cX4_priceOf 5 = .ok (.aload_n 0, 1) := by decide +kernel
theorem dX4_priceOf_6 : decode cX4_priceOf 6 = .ok (.getfield 9, 3) := by decide +kernel
theorem dX4_priceOf_9 : decode cX4_priceOf 9 = .ok (.iconst 4, 1) := by decide +kernel
theorem dX4_priceOf_10 : decode cX4_priceOf 10 = .ok (.iload_n 2, 1) := by decide +kernel
theorem dX4_priceOf_11 : decode cX4_priceOf 11 = .ok (.iastore, 1) := by decide +kernel
theorem dX4_priceOf_12 : decode cX4_priceOf 12 = .ok (.iconst 1, 1) := by decide +kernel
theorem dX4_priceOf_13 : decode cX4_priceOf 13 = .ok (.aload_n 0, 1) := by decide +kernel
theorem dX4_priceOf_14 : decode cX4_priceOf 14 = .ok (.iconst 0, 1) := by decide +kernel
theorem dX4_priceOf_15 : decode cX4_priceOf 15 = .ok (.invokevirtual 59, 3) := by decide +kernel
theorem dX4_priceOf_18 : decode cX4_priceOf 18 = .ok (.sipush 9999, 3) := by decide +kernel
theorem dX4_priceOf_21 : decode cX4_priceOf 21 = .ok (.invokestatic 63, 3) := by decide +kernel
theorem dX4_priceOf_24 : decode cX4_priceOf 24 = .ok (.ireturn, 1) := by decide +kernel
theorem dX4_shockOf_0 : decode cX4_shockOf 0 = .ok (.iload_n 1, 1) := by decide +kernel
theorem dX4_shockOf_1 : decode cX4_shockOf 1 = .ok (.iload_n 2, 1) := by decide +kernel
theorem dX4_shockOf_2 : decode cX4_shockOf 2 = .ok (.invokestatic 67, 3) := by decide +kernel
theorem dX4_shockOf_5 : decode cX4_shockOf 5 = .ok (.istore_n 3, 1) := by decide +kernel
theorem dX4_shockOf_6 : decode cX4_shockOf 6 = .ok (.aload_n 0, 1) := by decide +kernel
theorem dX4_shockOf_7 : decode cX4_shockOf 7 = .ok (.getfield 27, 3) := by decide +kernel
theorem dX4_shockOf_10 : decode cX4_shockOf 10 = .ok (.iload_n 3, 1) := by decide +kernel
theorem dX4_shockOf_11 : decode cX4_shockOf 11 = .ok (.iaload, 1) := by decide +kernel
theorem dX4_shockOf_12 : decode cX4_shockOf 12 = .ok (.iconst (-1), 1) := by decide +kernel
theorem dX4_shockOf_13 : decode cX4_shockOf 13 = .ok (.if_icmp .ne 43, 3) := by decide +kernel
theorem dX4_shockOf_16 : decode cX4_shockOf 16 = .ok (.aload_n 0, 1) := by decide +kernel
theorem dX4_shockOf_17 : decode cX4_shockOf 17 = .ok (.iload_n 1, 1) := by decide +kernel
theorem dX4_shockOf_18 : decode cX4_shockOf 18 = .ok (.invokevirtual 55, 3) := by decide +kernel
theorem dX4_shockOf_21 : decode cX4_shockOf 21 = .ok (.aload_n 0, 1) := by decide +kernel
theorem dX4_shockOf_22 : decode cX4_shockOf 22 = .ok (.getfield 9, 3) := by decide +kernel
theorem dX4_shockOf_25 : decode cX4_shockOf 25 = .ok (.iconst 5, 1) := by decide +kernel
theorem dX4_shockOf_26 : decode cX4_shockOf 26 = .ok (.bipush 9, 2) := by decide +kernel
theorem dX4_shockOf_28 : decode cX4_shockOf 28 = .ok (.aload_n 0, 1) := by decide +kernel
theorem dX4_shockOf_29 : decode cX4_shockOf 29 = .ok (.getfield 30, 3) := by decide +kernel
theorem dX4_shockOf_32 : decode cX4_shockOf 32 = .ok (.getfield 48, 3) := by decide +kernel
theorem dX4_shockOf_35 : decode cX4_shockOf 35 = .ok (.iload_n 2, 1) := by decide +kernel
theorem dX4_shockOf_36 : decode cX4_shockOf 36 = .ok (.iaload, 1) := by decide +kernel
theorem dX4_shockOf_37 : decode cX4_shockOf 37 = .ok (.isub, 1) := by decide +kernel
theorem dX4_shockOf_38 : decode cX4_shockOf 38 = .ok (.iastore, 1) := by decide +kernel
theorem dX4_shockOf_39 : decode cX4_shockOf 39 = .ok (.aload_n 0, 1) := by decide +kernel
theorem dX4_shockOf_40 : decode cX4_shockOf 40 = .ok (.getfield 27, 3) := by decide +kernel
theorem dX4_shockOf_43 : decode cX4_shockOf 43 = .ok (.iload_n 3, 1) := by decide +kernel
theorem dX4_shockOf_44 : decode cX4_shockOf 44 = .ok (.iconst 0, 1) := by decide +kernel
theorem dX4_shockOf_45 : decode cX4_shockOf 45 = .ok (.aload_n 0, 1) := by decide +kernel
theorem dX4_shockOf_46 : decode cX4_shockOf 46 = .ok (.iconst 1, 1) := by decide +kernel
theorem dX4_shockOf_47 : decode cX4_shockOf 47 = .ok (.invokevirtual 59, 3) := by decide +kernel
theorem dX4_shockOf_50 : decode cX4_shockOf 50 = .ok (.bipush 100, 2) := by decide +kernel
theorem dX4_shockOf_52 : decode cX4_shockOf 52 = .ok (.invokestatic 63, 3) := by decide +kernel
theorem dX4_shockOf_55 : decode cX4_shockOf 55 = .ok (.iastore, 1) := by decide +kernel
theorem dX4_shockOf_56 : decode cX4_shockOf 56 = .ok (.aload_n 0, 1) := by decide +kernel
theorem dX4_shockOf_57 : decode cX4_shockOf 57 = .ok (.getfield 27, 3) := by decide +kernel
theorem dX4_shockOf_60 : decode cX4_shockOf 60 = .ok (.iload_n 3, 1) := by decide +kernel
theorem dX4_shockOf_61 : decode cX4_shockOf 61 = .ok (.iaload, 1) := by decide +kernel
theorem dX4_shockOf_62 : decode cX4_shockOf 62 = .ok (.ireturn, 1) := by decide +kernel
theorem dX4_mendOf_0 : decode cX4_mendOf 0 = .ok (.aload_n 0, 1) := by decide +kernel
theorem dX4_mendOf_1 : decode cX4_mendOf 1 = .ok (.iload_n 1, 1) := by decide +kernel
theorem dX4_mendOf_2 : decode cX4_mendOf 2 = .ok (.invokevirtual 55, 3) := by decide +kernel
theorem dX4_mendOf_5 : decode cX4_mendOf 5 = .ok (.aload_n 0, 1) := by decide +kernel
theorem dX4_mendOf_6 : decode cX4_mendOf 6 = .ok (.getfield 9, 3) := by decide +kernel
theorem dX4_mendOf_9 : decode cX4_mendOf 9 = .ok (.iconst 5, 1) := by decide +kernel
theorem dX4_mendOf_10 : decode cX4_mendOf 10 = .ok (.bipush 9, 2) := by decide +kernel
theorem dX4_mendOf_12 : decode cX4_mendOf 12 = .ok (.aload_n 0, 1) := by decide +kernel
theorem dX4_mendOf_13 : decode cX4_mendOf 13 = .ok (.getfield 30, 3) := by decide +kernel
theorem dX4_mendOf_16 : decode cX4_mendOf 16 = .ok (.getfield 48, 3) := by decide +kernel
theorem dX4_mendOf_19 : decode cX4_mendOf 19 = .ok (.iload_n 2, 1) := by decide +kernel
theorem dX4_mendOf_20 : decode cX4_mendOf 20 = .ok (.iaload, 1) := by decide +kernel
theorem dX4_mendOf_21 : decode cX4_mendOf 21 = .ok (.isub, 1) := by decide +kernel
theorem dX4_mendOf_22 : decode cX4_mendOf 22 = .ok (.iastore, 1) := by decide +kernel
theorem dX4_mendOf_23 : decode cX4_mendOf 23 = .ok (.aload_n 0, 1) := by decide +kernel
theorem dX4_mendOf_24 : decode cX4_mendOf 24 = .ok (.getfield 9, 3) := by decide +kernel
theorem dX4_mendOf_27 : decode cX4_mendOf 27 = .ok (.bipush 6, 2) := by decide +kernel
theorem dX4_mendOf_29 : decode cX4_mendOf 29 = .ok (.iload_n 3, 1) := by decide +kernel
theorem dX4_mendOf_30 : decode cX4_mendOf 30 = .ok (.iastore, 1) := by decide +kernel
theorem dX4_mendOf_31 : decode cX4_mendOf 31 = .ok (.aload_n 0, 1) := by decide +kernel
theorem dX4_mendOf_32 : decode cX4_mendOf 32 = .ok (.getfield 9, 3) := by decide +kernel
theorem dX4_mendOf_35 : decode cX4_mendOf 35 = .ok (.bipush 7, 2) := by decide +kernel
theorem dX4_mendOf_37 : decode cX4_mendOf 37 = .ok (.aload_n 0, 1) := by decide +kernel
theorem dX4_mendOf_38 : decode cX4_mendOf 38 = .ok (.getfield 30, 3) := by decide +kernel
theorem dX4_mendOf_41 : decode cX4_mendOf 41 = .ok (.getfield 43, 3) := by decide +kernel
theorem dX4_mendOf_44 : decode cX4_mendOf 44 = .ok (.iload_n 2, 1) := by decide +kernel
theorem dX4_mendOf_45 : decode cX4_mendOf 45 = .ok (.iaload, 1) := by decide +kernel
theorem dX4_mendOf_46 : decode cX4_mendOf 46 = .ok (.iastore, 1) := by decide +kernel
theorem dX4_mendOf_47 : decode cX4_mendOf 47 = .ok (.iconst 0, 1) := by decide +kernel
theorem dX4_mendOf_48 : decode cX4_mendOf 48 = .ok (.aload_n 0, 1) := by decide +kernel
theorem dX4_mendOf_49 : decode cX4_mendOf 49 = .ok (.iconst 2, 1) := by decide +kernel
theorem dX4_mendOf_50 : decode cX4_mendOf 50 = .ok (.invokevirtual 59, 3) := by decide +kernel
theorem dX4_mendOf_53 : decode cX4_mendOf 53 = .ok (.bipush 99, 2) := by decide +kernel
theorem dX4_mendOf_55 : decode cX4_mendOf 55 = .ok (.invokestatic 63, 3) := by decide +kernel
theorem dX4_mendOf_58 : decode cX4_mendOf 58 = .ok (.ireturn, 1) := by decide +kernel
theorem dX4_setRoad_0 : decode cX4_setRoad 0 = .ok (.aload_n 0, 1) := by decide +kernel
theorem dX4_setRoad_1 : decode cX4_setRoad 1 = .ok (.getfield 9, 3) := by decide +kernel
theorem dX4_setRoad_4 : decode cX4_setRoad 4 = .ok (.iconst 0, 1) := by decide +kernel
theorem dX4_setRoad_5 : decode cX4_setRoad 5 = .ok (.aload_n 0, 1) := by decide +kernel
theorem dX4_setRoad_6 : decode cX4_setRoad 6 = .ok (.getfield 30, 3) := by decide +kernel
theorem dX4_setRoad_9 : decode cX4_setRoad 9 = .ok (.getfield 71, 3) := by decide +kernel
theorem dX4_setRoad_12 : decode cX4_setRoad 12 = .ok (.iload_n 1, 1) := by decide +kernel
theorem dX4_setRoad_13 : decode cX4_setRoad 13 = .ok (.iaload, 1) := by decide +kernel
theorem dX4_setRoad_14 : decode cX4_setRoad 14 = .ok (.iastore, 1) := by decide +kernel
theorem dX4_setRoad_15 : decode cX4_setRoad 15 = .ok (.aload_n 0, 1) := by decide +kernel
theorem dX4_setRoad_16 : decode cX4_setRoad 16 = .ok (.getfield 9, 3) := by decide +kernel
theorem dX4_setRoad_19 : decode cX4_setRoad 19 = .ok (.iconst 1, 1) := by decide +kernel
theorem dX4_setRoad_20 : decode cX4_setRoad 20 = .ok (.aload_n 0, 1) := by decide +kernel
theorem dX4_setRoad_21 : decode cX4_setRoad 21 = .ok (.getfield 18, 3) := by decide +kernel
theorem dX4_setRoad_24 : decode cX4_setRoad 24 = .ok (.iload_n 1, 1) := by decide +kernel
theorem dX4_setRoad_25 : decode cX4_setRoad 25 = .ok (.iaload, 1) := by decide +kernel
theorem dX4_setRoad_26 : decode cX4_setRoad 26 = .ok (.iastore, 1) := by decide +kernel
theorem dX4_setRoad_27 : decode cX4_setRoad 27 = .ok (.aload_n 0, 1) := by decide +kernel
theorem dX4_setRoad_28 : decode cX4_setRoad 28 = .ok (.getfield 9, 3) := by decide +kernel
theorem dX4_setRoad_31 : decode cX4_setRoad 31 = .ok (.iconst 2, 1) := by decide +kernel
theorem dX4_setRoad_32 : decode cX4_setRoad 32 = .ok (.aload_n 0, 1) := by decide +kernel
theorem dX4_setRoad_33 : decode cX4_setRoad 33 = .ok (.getfield 21, 3) := by decide +kernel
theorem dX4_setRoad_36 : decode cX4_setRoad 36 = .ok (.iload_n 1, 1) := by decide +kernel
theorem dX4_setRoad_37 : decode cX4_setRoad 37 = .ok (.iaload, 1) := by decide +kernel
theorem dX4_setRoad_38 : decode cX4_setRoad 38 = .ok (.iastore, 1) := by decide +kernel
theorem dX4_setRoad_39 : decode cX4_setRoad 39 = .ok (.aload_n 0, 1) := by decide +kernel
theorem dX4_setRoad_40 : decode cX4_setRoad 40 = .ok (.getfield 9, 3) := by decide +kernel
theorem dX4_setRoad_43 : decode cX4_setRoad 43 = .ok (.iconst 3, 1) := by decide +kernel
theorem dX4_setRoad_44 : decode cX4_setRoad 44 = .ok (.aload_n 0, 1) := by decide +kernel
theorem dX4_setRoad_45 : decode cX4_setRoad 45 = .ok (.getfield 24, 3) := by decide +kernel
theorem dX4_setRoad_48 : decode cX4_setRoad 48 = .ok (.iload_n 1, 1) := by decide +kernel
theorem dX4_setRoad_49 : decode cX4_setRoad 49 = .ok (.iaload, 1) := by decide +kernel
theorem dX4_setRoad_50 : decode cX4_setRoad 50 = .ok (.iastore, 1) := by decide +kernel
theorem dX4_setRoad_51 : decode cX4_setRoad 51 = .ok (.return_, 1) := by decide +kernel
theorem dX4_value_0 : decode cX4_value 0 = .ok (.iconst 0, 1) := by decide +kernel
theorem dX4_value_1 : decode cX4_value 1 = .ok (.istore_n 2, 1) := by decide +kernel
theorem dX4_value_2 : decode cX4_value 2 = .ok (.aload_n 0, 1) := by decide +kernel
theorem dX4_value_3 : decode cX4_value 3 = .ok (.getfield 30, 3) := by decide +kernel
theorem dX4_value_6 : decode cX4_value 6 = .ok (.getfield 74, 3) := by decide +kernel
theorem dX4_value_9 : decode cX4_value 9 = .ok (.iload_n 1, 1) := by decide +kernel
theorem dX4_value_10 : decode cX4_value 10 = .ok (.iaload, 1) := by decide +kernel
theorem dX4_value_11 : decode cX4_value 11 = .ok (.istore_n 3, 1) := by decide +kernel
theorem dX4_value_12 : decode cX4_value 12 = .ok (.iload_n 3, 1) := by decide +kernel
theorem dX4_value_13 : decode cX4_value 13 = .ok (.aload_n 0, 1) := by decide +kernel
theorem dX4_value_14 : decode cX4_value 14 = .ok (.getfield 30, 3) := by decide +kernel
theorem dX4_value_17 : decode cX4_value 17 = .ok (.getfield 77, 3) := by decide +kernel
theorem dX4_value_20 : decode cX4_value 20 = .ok (.iload_n 1, 1) := by decide +kernel
theorem dX4_value_21 : decode cX4_value 21 = .ok (.iaload, 1) := by decide +kernel
theorem dX4_value_22 : decode cX4_value 22 = .ok (.if_icmp .ge 155, 3) := by decide +kernel
theorem dX4_value_25 : decode cX4_value 25 = .ok (.iload_n 3, 1) := by decide +kernel
theorem dX4_value_26 : decode cX4_value 26 = .ok (.sipush 1003, 3) := by decide +kernel
theorem dX4_value_29 : decode cX4_value 29 = .ok (.if_icmp .ge 148, 3) := by decide +kernel
theorem dX4_value_32 : decode cX4_value 32 = .ok (.aload_n 0, 1) := by decide +kernel
theorem dX4_value_33 : decode cX4_value 33 = .ok (.getfield 30, 3) := by decide +kernel
theorem dX4_value_36 : decode cX4_value 36 = .ok (.getfield 80, 3) := by decide +kernel
theorem dX4_value_39 : decode cX4_value 39 = .ok (.iload_n 3, 1) := by decide +kernel
theorem dX4_value_40 : decode cX4_value 40 = .ok (.iaload, 1) := by decide +kernel
theorem dX4_value_41 : decode cX4_value 41 = .ok (.istore 4, 2) := by decide +kernel
theorem dX4_value_43 : decode cX4_value 43 = .ok (.iload 4, 2) := by decide +kernel
theorem dX4_value_45 : decode cX4_value 45 = .ok (.bipush 16, 2) := by decide +kernel
theorem dX4_value_47 : decode cX4_value 47 = .ok (.if_icmp .ge 10, 3) := by decide +kernel
theorem dX4_value_50 : decode cX4_value 50 = .ok (.iload 4, 2) := by decide +kernel
theorem dX4_value_52 : decode cX4_value 52 = .ok (.bipush 8, 2) := by decide +kernel
theorem dX4_value_54 : decode cX4_value 54 = .ok (.if_icmp .ge 43, 3) := by decide +kernel
theorem dX4_value_57 : decode cX4_value 57 = .ok (.iload_n 2, 1) := by decide +kernel
theorem dX4_value_58 : decode cX4_value 58 = .ok (.bipush 32, 2) := by decide +kernel
theorem dX4_value_60 : decode cX4_value 60 = .ok (.if_icmp .ge 111, 3) := by decide +kernel
theorem dX4_value_63 : decode cX4_value 63 = .ok (.aload_n 0, 1) := by decide +kernel
theorem dX4_value_64 : decode cX4_value 64 = .ok (.getfield 15, 3) := by decide +kernel
theorem dX4_value_67 : decode cX4_value 67 = .ok (.iload_n 2, 1) := by decide +kernel
theorem dX4_value_68 : decode cX4_value 68 = .ok (.iload 4, 2) := by decide +kernel
theorem dX4_value_70 : decode cX4_value 70 = .ok (.bipush 16, 2) := by decide +kernel
theorem dX4_value_72 : decode cX4_value 72 = .ok (.if_icmp .lt 11, 3) := by decide +kernel
theorem dX4_value_75 : decode cX4_value 75 = .ok (.iload 4, 2) := by decide +kernel
theorem dX4_value_77 : decode cX4_value 77 = .ok (.bipush 16, 2) := by decide +kernel
theorem dX4_value_79 : decode cX4_value 79 = .ok (.isub, 1) := by decide +kernel
theorem dX4_value_80 : decode cX4_value 80 = .ok (.goto 10, 3) := by decide +kernel
theorem dX4_value_83 : decode cX4_value 83 = .ok (.aload_n 0, 1) := by decide +kernel
theorem dX4_value_84 : decode cX4_value 84 = .ok (.getfield 9, 3) := by decide +kernel
theorem dX4_value_87 : decode cX4_value 87 = .ok (.iload 4, 2) := by decide +kernel
theorem dX4_value_89 : decode cX4_value 89 = .ok (.iaload, 1) := by decide +kernel
theorem dX4_value_90 : decode cX4_value 90 = .ok (.iastore, 1) := by decide +kernel
theorem dX4_value_91 : decode cX4_value 91 = .ok (.iinc 2 1, 3) := by decide +kernel
theorem dX4_value_94 : decode cX4_value 94 = .ok (.goto 77, 3) := by decide +kernel
theorem dX4_value_97 : decode cX4_value 97 = .ok (.iload 4, 2) := by decide +kernel
theorem dX4_value_99 : decode cX4_value 99 = .ok (.bipush 8, 2) := by decide +kernel
theorem dX4_value_101 : decode cX4_value 101 = .ok (.if_icmp .ne 35, 3) := by decide +kernel
theorem dX4_value_104 : decode cX4_value 104 = .ok (.iload_n 2, 1) := by decide +kernel
theorem dX4_value_105 : decode cX4_value 105 = .ok (.iconst 1, 1) := by decide +kernel
theorem dX4_value_106 : decode cX4_value 106 = .ok (.if_icmp .lt 30, 3) := by decide +kernel
theorem dX4_value_109 : decode cX4_value 109 = .ok (.aload_n 0, 1) := by decide +kernel
theorem dX4_value_110 : decode cX4_value 110 = .ok (.getfield 15, 3) := by decide +kernel
theorem dX4_value_113 : decode cX4_value 113 = .ok (.iload_n 2, 1) := by decide +kernel
theorem dX4_value_114 : decode cX4_value 114 = .ok (.iconst 1, 1) := by decide +kernel
theorem dX4_value_115 : decode cX4_value 115 = .ok (.isub, 1) := by decide +kernel
theorem dX4_value_116 : decode cX4_value 116 = .ok (.aload_n 0, 1) := by decide +kernel
theorem dX4_value_117 : decode cX4_value 117 = .ok (.getfield 15, 3) := by decide +kernel
theorem dX4_value_120 : decode cX4_value 120 = .ok (.iload_n 2, 1) := by decide +kernel
theorem dX4_value_121 : decode cX4_value 121 = .ok (.iconst 1, 1) := by decide +kernel
theorem dX4_value_122 : decode cX4_value 122 = .ok (.isub, 1) := by decide +kernel
theorem dX4_value_123 : decode cX4_value 123 = .ok (.iaload, 1) := by decide +kernel
theorem dX4_value_124 : decode cX4_value 124 = .ok (.ifCond .ne 7, 3) := by decide +kernel
theorem dX4_value_127 : decode cX4_value 127 = .ok (.iconst 1, 1) := by decide +kernel
theorem dX4_value_128 : decode cX4_value 128 = .ok (.goto 4, 3) := by decide +kernel
theorem dX4_value_131 : decode cX4_value 131 = .ok (.iconst 0, 1) := by decide +kernel
theorem dX4_value_132 : decode cX4_value 132 = .ok (.iastore, 1) := by decide +kernel
theorem dX4_value_133 : decode cX4_value 133 = .ok (.goto 38, 3) := by decide +kernel
theorem dX4_value_136 : decode cX4_value 136 = .ok (.iload_n 2, 1) := by decide +kernel
theorem dX4_value_137 : decode cX4_value 137 = .ok (.iconst 2, 1) := by decide +kernel
theorem dX4_value_138 : decode cX4_value 138 = .ok (.if_icmp .lt 33, 3) := by decide +kernel
theorem dX4_value_141 : decode cX4_value 141 = .ok (.iinc 2 (-1), 3) := by decide +kernel
theorem dX4_value_144 : decode cX4_value 144 = .ok (.aload_n 0, 1) := by decide +kernel
theorem dX4_value_145 : decode cX4_value 145 = .ok (.getfield 15, 3) := by decide +kernel
theorem dX4_value_148 : decode cX4_value 148 = .ok (.iload_n 2, 1) := by decide +kernel
theorem dX4_value_149 : decode cX4_value 149 = .ok (.iconst 1, 1) := by decide +kernel
theorem dX4_value_150 : decode cX4_value 150 = .ok (.isub, 1) := by decide +kernel
theorem dX4_value_151 : decode cX4_value 151 = .ok (.iload 4, 2) := by decide +kernel
theorem dX4_value_153 : decode cX4_value 153 = .ok (.aload_n 0, 1) := by decide +kernel
theorem dX4_value_154 : decode cX4_value 154 = .ok (.getfield 15, 3) := by decide +kernel
theorem dX4_value_157 : decode cX4_value 157 = .ok (.iload_n 2, 1) := by decide +kernel
theorem dX4_value_158 : decode cX4_value 158 = .ok (.iconst 1, 1) := by decide +kernel
theorem dX4_value_159 : decode cX4_value 159 = .ok (.isub, 1) := by decide +kernel
theorem dX4_value_160 : decode cX4_value 160 = .ok (.iaload, 1) := by decide +kernel
theorem dX4_value_161 : decode cX4_value 161 = .ok (.aload_n 0, 1) := by decide +kernel
theorem dX4_value_162 : decode cX4_value 162 = .ok (.getfield 15, 3) := by decide +kernel
theorem dX4_value_165 : decode cX4_value 165 = .ok (.iload_n 2, 1) := by decide +kernel
theorem dX4_value_166 : decode cX4_value 166 = .ok (.iaload, 1) := by decide +kernel
theorem dX4_value_167 : decode cX4_value 167 = .ok (.invokestatic 83, 3) := by decide +kernel
theorem dX4_value_170 : decode cX4_value 170 = .ok (.iastore, 1) := by decide +kernel
theorem dX4_value_171 : decode cX4_value 171 = .ok (.iinc 3 1, 3) := by decide +kernel
theorem dX4_value_174 : decode cX4_value 174 = .ok (.goto (-162), 3) := by decide +kernel
theorem dX4_value_177 : decode cX4_value 177 = .ok (.aload_n 0, 1) := by decide +kernel
theorem dX4_value_178 : decode cX4_value 178 = .ok (.getfield 15, 3) := by decide +kernel
theorem dX4_value_181 : decode cX4_value 181 = .ok (.iconst 0, 1) := by decide +kernel
theorem dX4_value_182 : decode cX4_value 182 = .ok (.iaload, 1) := by decide +kernel
theorem dX4_value_183 : decode cX4_value 183 = .ok (.ireturn, 1) := by decide +kernel
theorem dX4_joined_0 : decode cX4_joined 0 = .ok (.iload_n 0, 1) := by decide +kernel
theorem dX4_joined_1 : decode cX4_joined 1 = .ok (.tableswitch 105 9 15 #[43, 57, 71, 82, 93, 97, 101], 43) := by decide +kernel
theorem dX4_joined_44 : decode cX4_joined 44 = .ok (.iload_n 1, 1) := by decide +kernel
theorem dX4_joined_45 : decode cX4_joined 45 = .ok (.ifCond .eq 11, 3) := by decide +kernel
theorem dX4_joined_48 : decode cX4_joined 48 = .ok (.iload_n 2, 1) := by decide +kernel
theorem dX4_joined_49 : decode cX4_joined 49 = .ok (.ifCond .eq 7, 3) := by decide +kernel
theorem dX4_joined_52 : decode cX4_joined 52 = .ok (.iconst 1, 1) := by decide +kernel
theorem dX4_joined_53 : decode cX4_joined 53 = .ok (.goto 4, 3) := by decide +kernel
theorem dX4_joined_56 : decode cX4_joined 56 = .ok (.iconst 0, 1) := by decide +kernel
theorem dX4_joined_57 : decode cX4_joined 57 = .ok (.ireturn, 1) := by decide +kernel
theorem dX4_joined_58 : decode cX4_joined 58 = .ok (.iload_n 1, 1) := by decide +kernel
theorem dX4_joined_59 : decode cX4_joined 59 = .ok (.ifCond .ne 7, 3) := by decide +kernel
theorem dX4_joined_62 : decode cX4_joined 62 = .ok (.iload_n 2, 1) := by decide +kernel
theorem dX4_joined_63 : decode cX4_joined 63 = .ok (.ifCond .eq 7, 3) := by decide +kernel
theorem dX4_joined_66 : decode cX4_joined 66 = .ok (.iconst 1, 1) := by decide +kernel
theorem dX4_joined_67 : decode cX4_joined 67 = .ok (.goto 4, 3) := by decide +kernel
theorem dX4_joined_70 : decode cX4_joined 70 = .ok (.iconst 0, 1) := by decide +kernel
theorem dX4_joined_71 : decode cX4_joined 71 = .ok (.ireturn, 1) := by decide +kernel
theorem dX4_joined_72 : decode cX4_joined 72 = .ok (.iload_n 1, 1) := by decide +kernel
theorem dX4_joined_73 : decode cX4_joined 73 = .ok (.iload_n 2, 1) := by decide +kernel
theorem dX4_joined_74 : decode cX4_joined 74 = .ok (.if_icmp .ge 7, 3) := by decide +kernel
theorem dX4_joined_77 : decode cX4_joined 77 = .ok (.iconst 1, 1) := by decide +kernel
theorem dX4_joined_78 : decode cX4_joined 78 = .ok (.goto 4, 3) := by decide +kernel
theorem dX4_joined_81 : decode cX4_joined 81 = .ok (.iconst 0, 1) := by decide +kernel
theorem dX4_joined_82 : decode cX4_joined 82 = .ok (.ireturn, 1) := by decide +kernel
theorem dX4_joined_83 : decode cX4_joined 83 = .ok (.iload_n 1, 1) := by decide +kernel
theorem dX4_joined_84 : decode cX4_joined 84 = .ok (.iload_n 2, 1) := by decide +kernel
theorem dX4_joined_85 : decode cX4_joined 85 = .ok (.if_icmp .ne 7, 3) := by decide +kernel
theorem dX4_joined_88 : decode cX4_joined 88 = .ok (.iconst 1, 1) := by decide +kernel
theorem dX4_joined_89 : decode cX4_joined 89 = .ok (.goto 4, 3) := by decide +kernel
theorem dX4_joined_92 : decode cX4_joined 92 = .ok (.iconst 0, 1) := by decide +kernel
theorem dX4_joined_93 : decode cX4_joined 93 = .ok (.ireturn, 1) := by decide +kernel
theorem dX4_joined_94 : decode cX4_joined 94 = .ok (.iload_n 1, 1) := by decide +kernel
theorem dX4_joined_95 : decode cX4_joined 95 = .ok (.iload_n 2, 1) := by decide +kernel
theorem dX4_joined_96 : decode cX4_joined 96 = .ok (.iadd, 1) := by decide +kernel
theorem dX4_joined_97 : decode cX4_joined 97 = .ok (.ireturn, 1) := by decide +kernel
theorem dX4_joined_98 : decode cX4_joined 98 = .ok (.iload_n 1, 1) := by decide +kernel
theorem dX4_joined_99 : decode cX4_joined 99 = .ok (.iload_n 2, 1) := by decide +kernel
theorem dX4_joined_100 : decode cX4_joined 100 = .ok (.isub, 1) := by decide +kernel
theorem dX4_joined_101 : decode cX4_joined 101 = .ok (.ireturn, 1) := by decide +kernel
theorem dX4_joined_102 : decode cX4_joined 102 = .ok (.iload_n 1, 1) := by decide +kernel
theorem dX4_joined_103 : decode cX4_joined 103 = .ok (.iload_n 2, 1) := by decide +kernel
theorem dX4_joined_104 : decode cX4_joined 104 = .ok (.imul, 1) := by decide +kernel
theorem dX4_joined_105 : decode cX4_joined 105 = .ok (.ireturn, 1) := by decide +kernel
theorem dX4_joined_106 : decode cX4_joined 106 = .ok (.iconst 0, 1) := by decide +kernel
theorem dX4_joined_107 : decode cX4_joined 107 = .ok (.ireturn, 1) := by decide +kernel
theorem dX5_init_0 : decode cX5_init 0 = .ok (.aload_n 0, 1) := by decide +kernel
theorem dX5_init_1 : decode cX5_init 1 = .ok (.invokespecial 1, 3) := by decide +kernel
theorem dX5_init_4 : decode cX5_init 4 = .ok (.aload_n 0, 1) := by decide +kernel
theorem dX5_init_5 : decode cX5_init 5 = .ok (.sipush 1000, 3) := by decide +kernel
theorem dX5_init_8 : decode cX5_init 8 = .ok (.newarray .byte, 2) := by decide +kernel
theorem dX5_init_10 : decode cX5_init 10 = .ok (.putfield 9, 3) := by decide +kernel
theorem dX5_init_13 : decode cX5_init 13 = .ok (.return_, 1) := by decide +kernel
theorem dX5_append_0 : decode cX5_append 0 = .ok (.bipush 56, 2) := by decide +kernel
theorem dX5_append_2 : decode cX5_append 2 = .ok (.istore_n 3, 1) := by decide +kernel
theorem dX5_append_3 : decode cX5_append 3 = .ok (.iload_n 3, 1) := by decide +kernel
theorem dX5_append_4 : decode cX5_append 4 = .ok (.ifCond .lt 72, 3) := by decide +kernel
theorem dX5_append_7 : decode cX5_append 7 = .ok (.lload_n 1, 1) := by decide +kernel
theorem dX5_append_8 : decode cX5_append 8 = .ok (.iload_n 3, 1) := by decide +kernel
theorem dX5_append_9 : decode cX5_append 9 = .ok (.lushr, 1) := by decide +kernel
theorem dX5_append_10 : decode cX5_append 10 = .ok (.l2i, 1) := by decide +kernel
theorem dX5_append_11 : decode cX5_append 11 = .ok (.sipush 255, 3) := by decide +kernel
theorem dX5_append_14 : decode cX5_append 14 = .ok (.iand, 1) := by decide +kernel
theorem dX5_append_15 : decode cX5_append 15 = .ok (.istore 4, 2) := by decide +kernel
theorem dX5_append_17 : decode cX5_append 17 = .ok (.iload 4, 2) := by decide +kernel
theorem dX5_append_19 : decode cX5_append 19 = .ok (.bipush 10, 2) := by decide +kernel
theorem dX5_append_21 : decode cX5_append 21 = .ok (.if_icmp .eq 17, 3) := by decide +kernel
theorem dX5_append_24 : decode cX5_append 24 = .ok (.iload 4, 2) := by decide +kernel
theorem dX5_append_26 : decode cX5_append 26 = .ok (.bipush 32, 2) := by decide +kernel
theorem dX5_append_28 : decode cX5_append 28 = .ok (.if_icmp .lt 42, 3) := by decide +kernel
theorem dX5_append_31 : decode cX5_append 31 = .ok (.iload 4, 2) := by decide +kernel
theorem dX5_append_33 : decode cX5_append 33 = .ok (.bipush 126, 2) := by decide +kernel
theorem dX5_append_35 : decode cX5_append 35 = .ok (.if_icmp .gt 35, 3) := by decide +kernel
theorem dX5_append_38 : decode cX5_append 38 = .ok (.aload_n 0, 1) := by decide +kernel
theorem dX5_append_39 : decode cX5_append 39 = .ok (.getfield 13, 3) := by decide +kernel
theorem dX5_append_42 : decode cX5_append 42 = .ok (.sipush 1000, 3) := by decide +kernel
theorem dX5_append_45 : decode cX5_append 45 = .ok (.if_icmp .ge 25, 3) := by decide +kernel
theorem dX5_append_48 : decode cX5_append 48 = .ok (.aload_n 0, 1) := by decide +kernel
theorem dX5_append_49 : decode cX5_append 49 = .ok (.getfield 9, 3) := by decide +kernel
theorem dX5_append_52 : decode cX5_append 52 = .ok (.aload_n 0, 1) := by decide +kernel
theorem dX5_append_53 : decode cX5_append 53 = .ok (.getfield 13, 3) := by decide +kernel
theorem dX5_append_56 : decode cX5_append 56 = .ok (.iload 4, 2) := by decide +kernel
theorem dX5_append_58 : decode cX5_append 58 = .ok (.i2b, 1) := by decide +kernel
theorem dX5_append_59 : decode cX5_append 59 = .ok (.bastore, 1) := by decide +kernel
theorem dX5_append_60 : decode cX5_append 60 = .ok (.aload_n 0, 1) := by decide +kernel
theorem dX5_append_61 : decode cX5_append 61 = .ok (.dup, 1) := by decide +kernel
theorem dX5_append_62 : decode cX5_append 62 = .ok (.getfield 13, 3) := by decide +kernel
theorem dX5_append_65 : decode cX5_append 65 = .ok (.iconst 1, 1) := by decide +kernel
theorem dX5_append_66 : decode cX5_append 66 = .ok (.iadd, 1) := by decide +kernel
theorem dX5_append_67 : decode cX5_append 67 = .ok (.putfield 13, 3) := by decide +kernel
theorem dX5_append_70 : decode cX5_append 70 = .ok (.iinc 3 (-8), 3) := by decide +kernel
theorem dX5_append_73 : decode cX5_append 73 = .ok (.goto (-70), 3) := by decide +kernel
theorem dX5_append_76 : decode cX5_append 76 = .ok (.return_, 1) := by decide +kernel
theorem dX5_signAt_0 : decode cX5_signAt 0 = .ok (.iload_n 1, 1) := by decide +kernel
theorem dX5_signAt_1 : decode cX5_signAt 1 = .ok (.ifCond .lt 20, 3) := by decide +kernel
theorem dX5_signAt_4 : decode cX5_signAt 4 = .ok (.iload_n 1, 1) := by decide +kernel
theorem dX5_signAt_5 : decode cX5_signAt 5 = .ok (.aload_n 0, 1) := by decide +kernel
theorem dX5_signAt_6 : decode cX5_signAt 6 = .ok (.getfield 13, 3) := by decide +kernel
theorem dX5_signAt_9 : decode cX5_signAt 9 = .ok (.if_icmp .ge 12, 3) := by decide +kernel
theorem dX5_signAt_12 : decode cX5_signAt 12 = .ok (.aload_n 0, 1) := by decide +kernel
theorem dX5_signAt_13 : decode cX5_signAt 13 = .ok (.getfield 9, 3) := by decide +kernel
theorem dX5_signAt_16 : decode cX5_signAt 16 = .ok (.iload_n 1, 1) := by decide +kernel
theorem dX5_signAt_17 : decode cX5_signAt 17 = .ok (.baload, 1) := by decide +kernel
theorem dX5_signAt_18 : decode cX5_signAt 18 = .ok (.goto 4, 3) := by decide +kernel
theorem dX5_signAt_21 : decode cX5_signAt 21 = .ok (.iconst 0, 1) := by decide +kernel
theorem dX5_signAt_22 : decode cX5_signAt 22 = .ok (.ireturn, 1) := by decide +kernel
theorem dX5_hasBlank_0 : decode cX5_hasBlank 0 = .ok (.aload_n 0, 1) := by decide +kernel
theorem dX5_hasBlank_1 : decode cX5_hasBlank 1 = .ok (.iload_n 1, 1) := by decide +kernel
theorem dX5_hasBlank_2 : decode cX5_hasBlank 2 = .ok (.invokevirtual 17, 3) := by decide +kernel
theorem dX5_hasBlank_5 : decode cX5_hasBlank 5 = .ok (.bipush 10, 2) := by decide +kernel
theorem dX5_hasBlank_7 : decode cX5_hasBlank 7 = .ok (.if_icmp .eq 13, 3) := by decide +kernel
theorem dX5_hasBlank_10 : decode cX5_hasBlank 10 = .ok (.aload_n 0, 1) := by decide +kernel
theorem dX5_hasBlank_11 : decode cX5_hasBlank 11 = .ok (.iload_n 1, 1) := by decide +kernel
theorem dX5_hasBlank_12 : decode cX5_hasBlank 12 = .ok (.invokevirtual 17, 3) := by decide +kernel
theorem dX5_hasBlank_15 : decode cX5_hasBlank 15 = .ok (.bipush 32, 2) := by decide +kernel
theorem dX5_hasBlank_17 : decode cX5_hasBlank 17 = .ok (.if_icmp .ne 7, 3) := by decide +kernel
theorem dX5_hasBlank_20 : decode cX5_hasBlank 20 = .ok (.iconst 1, 1) := by decide +kernel
theorem dX5_hasBlank_21 : decode cX5_hasBlank 21 = .ok (.goto 4, 3) := by decide +kernel
theorem dX5_hasBlank_24 : decode cX5_hasBlank 24 = .ok (.iconst 0, 1) := by decide +kernel
theorem dX5_hasBlank_25 : decode cX5_hasBlank 25 = .ok (.ireturn, 1) := by decide +kernel
theorem dX5_hasLetter_0 : decode cX5_hasLetter 0 = .ok (.aload_n 0, 1) := by decide +kernel
theorem dX5_hasLetter_1 : decode cX5_hasLetter 1 = .ok (.iload_n 1, 1) := by decide +kernel
theorem dX5_hasLetter_2 : decode cX5_hasLetter 2 = .ok (.invokevirtual 17, 3) := by decide +kernel
theorem dX5_hasLetter_5 : decode cX5_hasLetter 5 = .ok (.bipush 97, 2) := by decide +kernel
theorem dX5_hasLetter_7 : decode cX5_hasLetter 7 = .ok (.if_icmp .lt 17, 3) := by decide +kernel
theorem dX5_hasLetter_10 : decode cX5_hasLetter 10 = .ok (.aload_n 0, 1) := by decide +kernel
theorem dX5_hasLetter_11 : decode cX5_hasLetter 11 = .ok (.iload_n 1, 1) := by decide +kernel
theorem dX5_hasLetter_12 : decode cX5_hasLetter 12 = .ok (.invokevirtual 17, 3) := by decide +kernel
theorem dX5_hasLetter_15 : decode cX5_hasLetter 15 = .ok (.bipush 122, 2) := by decide +kernel
theorem dX5_hasLetter_17 : decode cX5_hasLetter 17 = .ok (.if_icmp .gt 7, 3) := by decide +kernel
theorem dX5_hasLetter_20 : decode cX5_hasLetter 20 = .ok (.iconst 1, 1) := by decide +kernel
theorem dX5_hasLetter_21 : decode cX5_hasLetter 21 = .ok (.goto 4, 3) := by decide +kernel
theorem dX5_hasLetter_24 : decode cX5_hasLetter 24 = .ok (.iconst 0, 1) := by decide +kernel
theorem dX5_hasLetter_25 : decode cX5_hasLetter 25 = .ok (.ireturn, 1) := by decide +kernel
theorem dX5_hasDigit_0 : decode cX5_hasDigit 0 = .ok (.aload_n 0, 1) := by decide +kernel
theorem dX5_hasDigit_1 : decode cX5_hasDigit 1 = .ok (.iload_n 1, 1) := by decide +kernel
theorem dX5_hasDigit_2 : decode cX5_hasDigit 2 = .ok (.invokevirtual 17, 3) := by decide +kernel
theorem dX5_hasDigit_5 : decode cX5_hasDigit 5 = .ok (.bipush 48, 2) := by decide +kernel
theorem dX5_hasDigit_7 : decode cX5_hasDigit 7 = .ok (.if_icmp .lt 17, 3) := by decide +kernel
theorem dX5_hasDigit_10 : decode cX5_hasDigit 10 = .ok (.aload_n 0, 1) := by decide +kernel
theorem dX5_hasDigit_11 : decode cX5_hasDigit 11 = .ok (.iload_n 1, 1) := by decide +kernel
theorem dX5_hasDigit_12 : decode cX5_hasDigit 12 = .ok (.invokevirtual 17, 3) := by decide +kernel
theorem dX5_hasDigit_15 : decode cX5_hasDigit 15 = .ok (.bipush 57, 2) := by decide +kernel
theorem dX5_hasDigit_17 : decode cX5_hasDigit 17 = .ok (.if_icmp .gt 7, 3) := by decide +kernel
theorem dX5_hasDigit_20 : decode cX5_hasDigit 20 = .ok (.iconst 1, 1) := by decide +kernel
theorem dX5_hasDigit_21 : decode cX5_hasDigit 21 = .ok (.goto 4, 3) := by decide +kernel
theorem dX5_hasDigit_24 : decode cX5_hasDigit 24 = .ok (.iconst 0, 1) := by decide +kernel
theorem dX5_hasDigit_25 : decode cX5_hasDigit 25 = .ok (.ireturn, 1) := by decide +kernel
theorem dX6_longer_0 : decode cX6_longer 0 = .ok (.iload_n 2, 1) := by decide +kernel
theorem dX6_longer_1 : decode cX6_longer 1 = .ok (.bipush 97, 2) := by decide +kernel
theorem dX6_longer_3 : decode cX6_longer 3 = .ok (.if_icmp .lt 23, 3) := by decide +kernel
theorem dX6_longer_6 : decode cX6_longer 6 = .ok (.iload_n 2, 1) := by decide +kernel
theorem dX6_longer_7 : decode cX6_longer 7 = .ok (.bipush 122, 2) := by decide +kernel
theorem dX6_longer_9 : decode cX6_longer 9 = .ok (.if_icmp .gt 17, 3) := by decide +kernel
theorem dX6_longer_12 : decode cX6_longer 12 = .ok (.lload_n 0, 1) := by decide +kernel
theorem dX6_longer_13 : decode cX6_longer 13 = .ok (.iconst 5, 1) := by decide +kernel
theorem dX6_longer_14 : decode cX6_longer 14 = .ok (.lshl, 1) := by decide +kernel
theorem dX6_longer_15 : decode cX6_longer 15 = .ok (.iload_n 2, 1) := by decide +kernel
theorem dX6_longer_16 : decode cX6_longer 16 = .ok (.bipush 97, 2) := by decide +kernel
theorem dX6_longer_18 : decode cX6_longer 18 = .ok (.isub, 1) := by decide +kernel
theorem dX6_longer_19 : decode cX6_longer 19 = .ok (.iconst 1, 1) := by decide +kernel
theorem dX6_longer_20 : decode cX6_longer 20 = .ok (.iadd, 1) := by decide +kernel
theorem dX6_longer_21 : decode cX6_longer 21 = .ok (.i2l, 1) := by decide +kernel
theorem dX6_longer_22 : decode cX6_longer 22 = .ok (.lor, 1) := by decide +kernel
theorem dX6_longer_23 : decode cX6_longer 23 = .ok (.goto 6, 3) := by decide +kernel
theorem dX6_longer_26 : decode cX6_longer 26 = .ok (.iload_n 2, 1) := by decide +kernel
theorem dX6_longer_27 : decode cX6_longer 27 = .ok (.ineg, 1) := by decide +kernel
theorem dX6_longer_28 : decode cX6_longer 28 = .ok (.i2l, 1) := by decide +kernel
theorem dX6_longer_29 : decode cX6_longer 29 = .ok (.lreturn, 1) := by decide +kernel
theorem dX6_of_0 : decode cX6_of 0 = .ok (.iconst 0, 1) := by decide +kernel
theorem dX6_of_1 : decode cX6_of 1 = .ok (.istore_n 2, 1) := by decide +kernel
theorem dX6_of_2 : decode cX6_of 2 = .ok (.iload_n 2, 1) := by decide +kernel
theorem dX6_of_3 : decode cX6_of 3 = .ok (.getstatic 146, 3) := by decide +kernel
theorem dX6_of_6 : decode cX6_of 6 = .ok (.arraylength, 1) := by decide +kernel
theorem dX6_of_7 : decode cX6_of 7 = .ok (.if_icmp .ge 28, 3) := by decide +kernel
theorem dX6_of_10 : decode cX6_of 10 = .ok (.getstatic 146, 3) := by decide +kernel
theorem dX6_of_13 : decode cX6_of 13 = .ok (.iload_n 2, 1) := by decide +kernel
theorem dX6_of_14 : decode cX6_of 14 = .ok (.aaload, 1) := by decide +kernel
theorem dX6_of_15 : decode cX6_of 15 = .ok (.getfield 125, 3) := by decide +kernel
theorem dX6_of_18 : decode cX6_of 18 = .ok (.lload_n 0, 1) := by decide +kernel
theorem dX6_of_19 : decode cX6_of 19 = .ok (.lcmp, 1) := by decide +kernel
theorem dX6_of_20 : decode cX6_of 20 = .ok (.ifCond .ne 9, 3) := by decide +kernel
theorem dX6_of_23 : decode cX6_of 23 = .ok (.getstatic 146, 3) := by decide +kernel
theorem dX6_of_26 : decode cX6_of 26 = .ok (.iload_n 2, 1) := by decide +kernel
theorem dX6_of_27 : decode cX6_of 27 = .ok (.aaload, 1) := by decide +kernel
theorem dX6_of_28 : decode cX6_of 28 = .ok (.areturn, 1) := by decide +kernel
theorem dX6_of_29 : decode cX6_of 29 = .ok (.iinc 2 1, 3) := by decide +kernel
theorem dX6_of_32 : decode cX6_of 32 = .ok (.goto (-30), 3) := by decide +kernel
theorem dX6_of_35 : decode cX6_of 35 = .ok (.lload_n 0, 1) := by decide +kernel
theorem dX6_of_36 : decode cX6_of 36 = .ok (.lconst 0, 1) := by decide +kernel
theorem dX6_of_37 : decode cX6_of 37 = .ok (.lcmp, 1) := by decide +kernel
theorem dX6_of_38 : decode cX6_of 38 = .ok (.ifCond .le 9, 3) := by decide +kernel
theorem dX6_of_41 : decode cX6_of 41 = .ok (.getstatic 15, 3) := by decide +kernel
theorem dX6_of_44 : decode cX6_of 44 = .ok (.goto 6, 3) := by decide +kernel
theorem dX6_of_47 : decode cX6_of 47 = .ok (.getstatic 9, 3) := by decide +kernel
theorem dX6_of_50 : decode cX6_of 50 = .ok (.areturn, 1) := by decide +kernel
theorem dX6_isName_0 : decode cX6_isName 0 = .ok (.aload_n 0, 1) := by decide +kernel
theorem dX6_isName_1 : decode cX6_isName 1 = .ok (.getstatic 15, 3) := by decide +kernel
theorem dX6_isName_4 : decode cX6_isName 4 = .ok (.if_acmp .eq 24, 3) := by decide +kernel
theorem dX6_isName_7 : decode cX6_isName 7 = .ok (.aload_n 0, 1) := by decide +kernel
theorem dX6_isName_8 : decode cX6_isName 8 = .ok (.getstatic 90, 3) := by decide +kernel
theorem dX6_isName_11 : decode cX6_isName 11 = .ok (.if_acmp .eq 17, 3) := by decide +kernel
theorem dX6_isName_14 : decode cX6_isName 14 = .ok (.aload_n 0, 1) := by decide +kernel
theorem dX6_isName_15 : decode cX6_isName 15 = .ok (.getstatic 93, 3) := by decide +kernel
theorem dX6_isName_18 : decode cX6_isName 18 = .ok (.if_acmp .eq 10, 3) := by decide +kernel
theorem dX6_isName_21 : decode cX6_isName 21 = .ok (.aload_n 0, 1) := by decide +kernel
theorem dX6_isName_22 : decode cX6_isName 22 = .ok (.getstatic 96, 3) := by decide +kernel
theorem dX6_isName_25 : decode cX6_isName 25 = .ok (.if_acmp .ne 7, 3) := by decide +kernel
theorem dX6_isName_28 : decode cX6_isName 28 = .ok (.iconst 1, 1) := by decide +kernel
theorem dX6_isName_29 : decode cX6_isName 29 = .ok (.goto 4, 3) := by decide +kernel
theorem dX6_isName_32 : decode cX6_isName 32 = .ok (.iconst 0, 1) := by decide +kernel
theorem dX6_isName_33 : decode cX6_isName 33 = .ok (.ireturn, 1) := by decide +kernel
theorem dX6_isFactIn_0 : decode cX6_isFactIn 0 = .ok (.iload_n 1, 1) := by decide +kernel
theorem dX6_isFactIn_1 : decode cX6_isFactIn 1 = .ok (.ifCond .ne 10, 3) := by decide +kernel
theorem dX6_isFactIn_4 : decode cX6_isFactIn 4 = .ok (.aload_n 0, 1) := by decide +kernel
theorem dX6_isFactIn_5 : decode cX6_isFactIn 5 = .ok (.getfield 136, 3) := by decide +kernel
theorem dX6_isFactIn_8 : decode cX6_isFactIn 8 = .ok (.goto 19, 3) := by decide +kernel
theorem dX6_isFactIn_11 : decode cX6_isFactIn 11 = .ok (.iload_n 1, 1) := by decide +kernel
theorem dX6_isFactIn_12 : decode cX6_isFactIn 12 = .ok (.iconst 1, 1) := by decide +kernel
theorem dX6_isFactIn_13 : decode cX6_isFactIn 13 = .ok (.if_icmp .ne 10, 3) := by decide +kernel
theorem dX6_isFactIn_16 : decode cX6_isFactIn 16 = .ok (.aload_n 0, 1) := by decide +kernel
theorem dX6_isFactIn_17 : decode cX6_isFactIn 17 = .ok (.getfield 140, 3) := by decide +kernel
theorem dX6_isFactIn_20 : decode cX6_isFactIn 20 = .ok (.goto 7, 3) := by decide +kernel
theorem dX6_isFactIn_23 : decode cX6_isFactIn 23 = .ok (.aload_n 0, 1) := by decide +kernel
theorem dX6_isFactIn_24 : decode cX6_isFactIn 24 = .ok (.getfield 143, 3) := by decide +kernel
theorem dX6_isFactIn_27 : decode cX6_isFactIn 27 = .ok (.ireturn, 1) := by decide +kernel
theorem dX7_init_0 : decode cX7_init 0 = .ok (.aload_n 0, 1) := by decide +kernel
theorem dX7_init_1 : decode cX7_init 1 = .ok (.invokespecial 3, 3) := by decide +kernel
theorem dX7_init_4 : decode cX7_init 4 = .ok (.aload_n 0, 1) := by decide +kernel
theorem dX7_init_5 : decode cX7_init 5 = .ok (.sipush 1001, 3) := by decide +kernel
theorem dX7_init_8 : decode cX7_init 8 = .ok (.anewarray 11, 3) := by decide +kernel
theorem dX7_init_11 : decode cX7_init 11 = .ok (.putfield 13, 3) := by decide +kernel
theorem dX7_init_14 : decode cX7_init 14 = .ok (.aload_n 0, 1) := by decide +kernel
theorem dX7_init_15 : decode cX7_init 15 = .ok (.sipush 1001, 3) := by decide +kernel
theorem dX7_init_18 : decode cX7_init 18 = .ok (.newarray .int, 2) := by decide +kernel
theorem dX7_init_20 : decode cX7_init 20 = .ok (.putfield 17, 3) := by decide +kernel
theorem dX7_init_23 : decode cX7_init 23 = .ok (.aload_n 0, 1) := by decide +kernel
theorem dX7_init_24 : decode cX7_init 24 = .ok (.sipush 1001, 3) := by decide +kernel
theorem dX7_init_27 : decode cX7_init 27 = .ok (.newarray .long, 2) := by decide +kernel
theorem dX7_init_29 : decode cX7_init 29 = .ok (.putfield 21, 3) := by decide +kernel
theorem dX7_init_32 : decode cX7_init 32 = .ok (.iconst 0, 1) := by decide +kernel
theorem dX7_init_33 : decode cX7_init 33 = .ok (.istore_n 1, 1) := by decide +kernel
theorem dX7_init_34 : decode cX7_init 34 = .ok (.iload_n 1, 1) := by decide +kernel
theorem dX7_init_35 : decode cX7_init 35 = .ok (.sipush 1001, 3) := by decide +kernel
theorem dX7_init_38 : decode cX7_init 38 = .ok (.if_icmp .ge 18, 3) := by decide +kernel
theorem dX7_init_41 : decode cX7_init 41 = .ok (.aload_n 0, 1) := by decide +kernel
theorem dX7_init_42 : decode cX7_init 42 = .ok (.getfield 13, 3) := by decide +kernel
theorem dX7_init_45 : decode cX7_init 45 = .ok (.iload_n 1, 1) := by decide +kernel
theorem dX7_init_46 : decode cX7_init 46 = .ok (.getstatic 25, 3) := by decide +kernel
theorem dX7_init_49 : decode cX7_init 49 = .ok (.aastore, 1) := by decide +kernel
theorem dX7_init_50 : decode cX7_init 50 = .ok (.iinc 1 1, 3) := by decide +kernel
theorem dX7_init_53 : decode cX7_init 53 = .ok (.goto (-19), 3) := by decide +kernel
theorem dX7_init_56 : decode cX7_init 56 = .ok (.return_, 1) := by decide +kernel
theorem dX7_cut_0 : decode cX7_cut 0 = .ok (.aload_n 0, 1) := by decide +kernel
theorem dX7_cut_1 : decode cX7_cut 1 = .ok (.iconst 0, 1) := by decide +kernel
theorem dX7_cut_2 : decode cX7_cut 2 = .ok (.putfield 29, 3) := by decide +kernel
theorem dX7_cut_5 : decode cX7_cut 5 = .ok (.iconst 0, 1) := by decide +kernel
theorem dX7_cut_6 : decode cX7_cut 6 = .ok (.istore_n 2, 1) := by decide +kernel
theorem dX7_cut_7 : decode cX7_cut 7 = .ok (.iconst 0, 1) := by decide +kernel
theorem dX7_cut_8 : decode cX7_cut 8 = .ok (.istore_n 3, 1) := by decide +kernel
theorem dX7_cut_9 : decode cX7_cut 9 = .ok (.iload_n 3, 1) := by decide +kernel
theorem dX7_cut_10 : decode cX7_cut 10 = .ok (.sipush 1000, 3) := by decide +kernel
theorem dX7_cut_13 : decode cX7_cut 13 = .ok (.if_icmp .ge 88, 3) := by decide +kernel
theorem dX7_cut_16 : decode cX7_cut 16 = .ok (.iload_n 2, 1) := by decide +kernel
theorem dX7_cut_17 : decode cX7_cut 17 = .ok (.aload_n 1, 1) := by decide +kernel
theorem dX7_cut_18 : decode cX7_cut 18 = .ok (.getfield 33, 3) := by decide +kernel
theorem dX7_cut_21 : decode cX7_cut 21 = .ok (.if_icmp .ge 80, 3) := by decide +kernel
theorem dX7_cut_24 : decode cX7_cut 24 = .ok (.aload_n 1, 1) := by decide +kernel
theorem dX7_cut_25 : decode cX7_cut 25 = .ok (.iload_n 2, 1) := by decide +kernel
theorem dX7_cut_26 : decode cX7_cut 26 = .ok (.invokevirtual 36, 3) := by decide +kernel
theorem dX7_cut_29 : decode cX7_cut 29 = .ok (.ifCond .eq 9, 3) := by decide +kernel
theorem dX7_cut_32 : decode cX7_cut 32 = .ok (.iinc 2 1, 3) := by decide +kernel
theorem dX7_cut_35 : decode cX7_cut 35 = .ok (.goto 60, 3) := by decide +kernel
theorem dX7_cut_38 : decode cX7_cut 38 = .ok (.aload_n 1, 1) := by decide +kernel
theorem dX7_cut_39 : decode cX7_cut 39 = .ok (.iload_n 2, 1) := by decide +kernel
theorem dX7_cut_40 : decode cX7_cut 40 = .ok (.invokevirtual 40, 3) := by decide +kernel
theorem dX7_cut_43 : decode cX7_cut 43 = .ok (.ifCond .eq 13, 3) := by decide +kernel
theorem dX7_cut_46 : decode cX7_cut 46 = .ok (.aload_n 0, 1) := by decide +kernel
theorem dX7_cut_47 : decode cX7_cut 47 = .ok (.aload_n 1, 1) := by decide +kernel
theorem dX7_cut_48 : decode cX7_cut 48 = .ok (.iload_n 2, 1) := by decide +kernel
theorem dX7_cut_49 : decode cX7_cut 49 = .ok (.invokevirtual 43, 3) := by decide +kernel
theorem dX7_cut_52 : decode cX7_cut 52 = .ok (.istore_n 2, 1) := by decide +kernel
theorem dX7_cut_53 : decode cX7_cut 53 = .ok (.goto 42, 3) := by decide +kernel
theorem dX7_cut_56 : decode cX7_cut 56 = .ok (.aload_n 1, 1) := by decide +kernel
theorem dX7_cut_57 : decode cX7_cut 57 = .ok (.iload_n 2, 1) := by decide +kernel
theorem dX7_cut_58 : decode cX7_cut 58 = .ok (.invokevirtual 47, 3) := by decide +kernel
theorem dX7_cut_61 : decode cX7_cut 61 = .ok (.ifCond .eq 13, 3) := by decide +kernel
theorem dX7_cut_64 : decode cX7_cut 64 = .ok (.aload_n 0, 1) := by decide +kernel
theorem dX7_cut_65 : decode cX7_cut 65 = .ok (.aload_n 1, 1) := by decide +kernel
theorem dX7_cut_66 : decode cX7_cut 66 = .ok (.iload_n 2, 1) := by decide +kernel
theorem dX7_cut_67 : decode cX7_cut 67 = .ok (.invokevirtual 50, 3) := by decide +kernel
theorem dX7_cut_70 : decode cX7_cut 70 = .ok (.istore_n 2, 1) := by decide +kernel
theorem dX7_cut_71 : decode cX7_cut 71 = .ok (.goto 24, 3) := by decide +kernel
theorem dX7_cut_74 : decode cX7_cut 74 = .ok (.aload_n 0, 1) := by decide +kernel
theorem dX7_cut_75 : decode cX7_cut 75 = .ok (.lconst 0, 1) := by decide +kernel
theorem dX7_cut_76 : decode cX7_cut 76 = .ok (.aload_n 1, 1) := by decide +kernel
theorem dX7_cut_77 : decode cX7_cut 77 = .ok (.iload_n 2, 1) := by decide +kernel
theorem dX7_cut_78 : decode cX7_cut 78 = .ok (.invokevirtual 53, 3) := by decide +kernel
theorem dX7_cut_81 : decode cX7_cut 81 = .ok (.invokestatic 57, 3) := by decide +kernel
theorem dX7_cut_84 : decode cX7_cut 84 = .ok (.invokestatic 61, 3) := by decide +kernel
theorem dX7_cut_87 : decode cX7_cut 87 = .ok (.iload_n 2, 1) := by decide +kernel
theorem dX7_cut_88 : decode cX7_cut 88 = .ok (.lconst 0, 1) := by decide +kernel
theorem dX7_cut_89 : decode cX7_cut 89 = .ok (.invokevirtual 65, 3) := by decide +kernel
theorem dX7_cut_92 : decode cX7_cut 92 = .ok (.iinc 2 1, 3) := by decide +kernel
theorem dX7_cut_95 : decode cX7_cut 95 = .ok (.iinc 3 1, 3) := by decide +kernel
theorem dX7_cut_98 : decode cX7_cut 98 = .ok (.goto (-89), 3) := by decide +kernel
theorem dX7_cut_101 : decode cX7_cut 101 = .ok (.aload_n 0, 1) := by decide +kernel
theorem dX7_cut_102 : decode cX7_cut 102 = .ok (.getstatic 25, 3) := by decide +kernel
theorem dX7_cut_105 : decode cX7_cut 105 = .ok (.aload_n 1, 1) := by decide +kernel
theorem dX7_cut_106 : decode cX7_cut 106 = .ok (.getfield 33, 3) := by decide +kernel
theorem dX7_cut_109 : decode cX7_cut 109 = .ok (.lconst 0, 1) := by decide +kernel
theorem dX7_cut_110 : decode cX7_cut 110 = .ok (.invokevirtual 65, 3) := by decide +kernel
theorem dX7_cut_113 : decode cX7_cut 113 = .ok (.return_, 1) := by decide +kernel
theorem dX7_cutWord_0 : decode cX7_cutWord 0 = .ok (.iload_n 2, 1) := by decide +kernel
theorem dX7_cutWord_1 : decode cX7_cutWord 1 = .ok (.istore_n 3, 1) := by decide +kernel
theorem dX7_cutWord_2 : decode cX7_cutWord 2 = .ok (.lconst 0, 1) := by decide +kernel
theorem dX7_cutWord_3 : decode cX7_cutWord 3 = .ok (.lstore 4, 2) := by decide +kernel
theorem dX7_cutWord_5 : decode cX7_cutWord 5 = .ok (.iload_n 3, 1) := by decide +kernel
theorem dX7_cutWord_6 : decode cX7_cutWord 6 = .ok (.aload_n 1, 1) := by decide +kernel
theorem dX7_cutWord_7 : decode cX7_cutWord 7 = .ok (.getfield 33, 3) := by decide +kernel
theorem dX7_cutWord_10 : decode cX7_cutWord 10 = .ok (.if_icmp .ge 29, 3) := by decide +kernel
theorem dX7_cutWord_13 : decode cX7_cutWord 13 = .ok (.aload_n 1, 1) := by decide +kernel
theorem dX7_cutWord_14 : decode cX7_cutWord 14 = .ok (.iload_n 3, 1) := by decide +kernel
theorem dX7_cutWord_15 : decode cX7_cutWord 15 = .ok (.invokevirtual 40, 3) := by decide +kernel
theorem dX7_cutWord_18 : decode cX7_cutWord 18 = .ok (.ifCond .eq 21, 3) := by decide +kernel
theorem dX7_cutWord_21 : decode cX7_cutWord 21 = .ok (.lload 4, 2) := by decide +kernel
theorem dX7_cutWord_23 : decode cX7_cutWord 23 = .ok (.aload_n 1, 1) := by decide +kernel
theorem dX7_cutWord_24 : decode cX7_cutWord 24 = .ok (.iload_n 3, 1) := by decide +kernel
theorem dX7_cutWord_25 : decode cX7_cutWord 25 = .ok (.invokevirtual 53, 3) := by decide +kernel
theorem dX7_cutWord_28 : decode cX7_cutWord 28 = .ok (.invokestatic 57, 3) := by decide +kernel
theorem dX7_cutWord_31 : decode cX7_cutWord 31 = .ok (.lstore 4, 2) := by decide +kernel
theorem dX7_cutWord_33 : decode cX7_cutWord 33 = .ok (.iinc 3 1, 3) := by decide +kernel
theorem dX7_cutWord_36 : decode cX7_cutWord 36 = .ok (.goto (-31), 3) := by decide +kernel
theorem dX7_cutWord_39 : decode cX7_cutWord 39 = .ok (.aload_n 0, 1) := by decide +kernel
theorem dX7_cutWord_40 : decode cX7_cutWord 40 = .ok (.iload_n 3, 1) := by decide +kernel
theorem dX7_cutWord_41 : decode cX7_cutWord 41 = .ok (.iload_n 2, 1) := by decide +kernel
theorem dX7_cutWord_42 : decode cX7_cutWord 42 = .ok (.isub, 1) := by decide +kernel
theorem dX7_cutWord_43 : decode cX7_cutWord 43 = .ok (.bipush 8, 2) := by decide +kernel
theorem dX7_cutWord_45 : decode cX7_cutWord 45 = .ok (.if_icmp .le 9, 3) := by decide +kernel
theorem dX7_cutWord_48 : decode cX7_cutWord 48 = .ok (.getstatic 69, 3) := by decide +kernel
theorem dX7_cutWord_51 : decode cX7_cutWord 51 = .ok (.goto 8, 3) := by decide +kernel
theorem dX7_cutWord_54 : decode cX7_cutWord 54 = .ok (.lload 4, 2) := by decide +kernel
theorem dX7_cutWord_56 : decode cX7_cutWord 56 = .ok (.invokestatic 61, 3) := by decide +kernel
theorem dX7_cutWord_59 : decode cX7_cutWord 59 = .ok (.iload_n 2, 1) := by decide +kernel
theorem dX7_cutWord_60 : decode cX7_cutWord 60 = .ok (.lload 4, 2) := by decide +kernel
theorem dX7_cutWord_62 : decode cX7_cutWord 62 = .ok (.invokevirtual 65, 3) := by decide +kernel
theorem dX7_cutWord_65 : decode cX7_cutWord 65 = .ok (.iload_n 3, 1) := by decide +kernel
theorem dX7_cutWord_66 : decode cX7_cutWord 66 = .ok (.ireturn, 1) := by decide +kernel
theorem dX7_cutNumber_0 : decode cX7_cutNumber 0 = .ok (.iload_n 2, 1) := by decide +kernel
theorem dX7_cutNumber_1 : decode cX7_cutNumber 1 = .ok (.istore_n 3, 1) := by decide +kernel
theorem dX7_cutNumber_2 : decode cX7_cutNumber 2 = .ok (.iconst 0, 1) := by decide +kernel
theorem dX7_cutNumber_3 : decode cX7_cutNumber 3 = .ok (.istore 4, 2) := by decide +kernel
theorem dX7_cutNumber_5 : decode cX7_cutNumber 5 = .ok (.iload_n 3, 1) := by decide +kernel
theorem dX7_cutNumber_6 : decode cX7_cutNumber 6 = .ok (.aload_n 1, 1) := by decide +kernel
theorem dX7_cutNumber_7 : decode cX7_cutNumber 7 = .ok (.getfield 33, 3) := by decide +kernel
theorem dX7_cutNumber_10 : decode cX7_cutNumber 10 = .ok (.if_icmp .ge 33, 3) := by decide +kernel
theorem dX7_cutNumber_13 : decode cX7_cutNumber 13 = .ok (.aload_n 1, 1) := by decide +kernel
theorem dX7_cutNumber_14 : decode cX7_cutNumber 14 = .ok (.iload_n 3, 1) := by decide +kernel
theorem dX7_cutNumber_15 : decode cX7_cutNumber 15 = .ok (.invokevirtual 47, 3) := by decide +kernel
theorem dX7_cutNumber_18 : decode cX7_cutNumber 18 = .ok (.ifCond .eq 25, 3) := by decide +kernel
theorem dX7_cutNumber_21 : decode cX7_cutNumber 21 = .ok (.iload 4, 2) := by decide +kernel
theorem dX7_cutNumber_23 : decode cX7_cutNumber 23 = .ok (.bipush 10, 2) := by decide +kernel
theorem dX7_cutNumber_25 : decode cX7_cutNumber 25 = .ok (.imul, 1) := by decide +kernel
theorem dX7_cutNumber_26 : decode cX7_cutNumber 26 = .ok (.aload_n 1, 1) := by decide +kernel
theorem dX7_cutNumber_27 : decode cX7_cutNumber 27 = .ok (.iload_n 3, 1) := by decide +kernel
theorem dX7_cutNumber_28 : decode cX7_cutNumber 28 = .ok (.invokevirtual 53, 3) := by decide +kernel
theorem dX7_cutNumber_31 : decode cX7_cutNumber 31 = .ok (.iadd, 1) := by decide +kernel
theorem dX7_cutNumber_32 : decode cX7_cutNumber 32 = .ok (.bipush 48, 2) := by decide +kernel
theorem dX7_cutNumber_34 : decode cX7_cutNumber 34 = .ok (.isub, 1) := by decide +kernel
theorem dX7_cutNumber_35 : decode cX7_cutNumber 35 = .ok (.istore 4, 2) := by decide +kernel
theorem dX7_cutNumber_37 : decode cX7_cutNumber 37 = .ok (.iinc 3 1, 3) := by decide +kernel
theorem dX7_cutNumber_40 : decode cX7_cutNumber 40 = .ok (.goto (-35), 3) := by decide +kernel
theorem dX7_cutNumber_43 : decode cX7_cutNumber 43 = .ok (.aload_n 0, 1) := by decide +kernel
theorem dX7_cutNumber_44 : decode cX7_cutNumber 44 = .ok (.iload_n 3, 1) := by decide +kernel
theorem dX7_cutNumber_45 : decode cX7_cutNumber 45 = .ok (.iload_n 2, 1) := by decide +kernel
theorem dX7_cutNumber_46 : decode cX7_cutNumber 46 = .ok (.isub, 1) := by decide +kernel
theorem dX7_cutNumber_47 : decode cX7_cutNumber 47 = .ok (.iconst 4, 1) := by decide +kernel
theorem dX7_cutNumber_48 : decode cX7_cutNumber 48 = .ok (.if_icmp .le 9, 3) := by decide +kernel
theorem dX7_cutNumber_51 : decode cX7_cutNumber 51 = .ok (.getstatic 69, 3) := by decide +kernel
theorem dX7_cutNumber_54 : decode cX7_cutNumber 54 = .ok (.goto 6, 3) := by decide +kernel
theorem dX7_cutNumber_57 : decode cX7_cutNumber 57 = .ok (.getstatic 72, 3) := by decide +kernel
theorem dX7_cutNumber_60 : decode cX7_cutNumber 60 = .ok (.iload_n 2, 1) := by decide +kernel
theorem dX7_cutNumber_61 : decode cX7_cutNumber 61 = .ok (.iload 4, 2) := by decide +kernel
theorem dX7_cutNumber_63 : decode cX7_cutNumber 63 = .ok (.i2l, 1) := by decide +kernel
theorem dX7_cutNumber_64 : decode cX7_cutNumber 64 = .ok (.invokevirtual 65, 3) := by decide +kernel
theorem dX7_cutNumber_67 : decode cX7_cutNumber 67 = .ok (.iload_n 3, 1) := by decide +kernel
theorem dX7_cutNumber_68 : decode cX7_cutNumber 68 = .ok (.ireturn, 1) := by decide +kernel
theorem dX7_add_0 : decode cX7_add 0 = .ok (.aload_n 0, 1) := by decide +kernel
theorem dX7_add_1 : decode cX7_add 1 = .ok (.getfield 29, 3) := by decide +kernel
theorem dX7_add_4 : decode cX7_add 4 = .ok (.sipush 1001, 3) := by decide +kernel
theorem dX7_add_7 : decode cX7_add 7 = .ok (.if_icmp .ge 43, 3) := by decide +kernel
theorem dX7_add_10 : decode cX7_add 10 = .ok (.aload_n 0, 1) := by decide +kernel
theorem dX7_add_11 : decode cX7_add 11 = .ok (.getfield 13, 3) := by decide +kernel
theorem dX7_add_14 : decode cX7_add 14 = .ok (.aload_n 0, 1) := by decide +kernel
theorem dX7_add_15 : decode cX7_add 15 = .ok (.getfield 29, 3) := by decide +kernel
theorem dX7_add_18 : decode cX7_add 18 = .ok (.aload_n 1, 1) := by decide +kernel
theorem dX7_add_19 : decode cX7_add 19 = .ok (.aastore, 1) := by decide +kernel
theorem dX7_add_20 : decode cX7_add 20 = .ok (.aload_n 0, 1) := by decide +kernel
theorem dX7_add_21 : decode cX7_add 21 = .ok (.getfield 17, 3) := by decide +kernel
theorem dX7_add_24 : decode cX7_add 24 = .ok (.aload_n 0, 1) := by decide +kernel
theorem dX7_add_25 : decode cX7_add 25 = .ok (.getfield 29, 3) := by decide +kernel
theorem dX7_add_28 : decode cX7_add 28 = .ok (.iload_n 2, 1) := by decide +kernel
theorem dX7_add_29 : decode cX7_add 29 = .ok (.iastore, 1) := by decide +kernel
theorem dX7_add_30 : decode cX7_add 30 = .ok (.aload_n 0, 1) := by decide +kernel
theorem dX7_add_31 : decode cX7_add 31 = .ok (.getfield 21, 3) := by decide +kernel
theorem dX7_add_34 : decode cX7_add 34 = .ok (.aload_n 0, 1) := by decide +kernel
theorem dX7_add_35 : decode cX7_add 35 = .ok (.getfield 29, 3) := by decide +kernel
theorem dX7_add_38 : decode cX7_add 38 = .ok (.lload_n 3, 1) := by decide +kernel
theorem dX7_add_39 : decode cX7_add 39 = .ok (.lastore, 1) := by decide +kernel
theorem dX7_add_40 : decode cX7_add 40 = .ok (.aload_n 0, 1) := by decide +kernel
theorem dX7_add_41 : decode cX7_add 41 = .ok (.dup, 1) := by decide +kernel
theorem dX7_add_42 : decode cX7_add 42 = .ok (.getfield 29, 3) := by decide +kernel
theorem dX7_add_45 : decode cX7_add 45 = .ok (.iconst 1, 1) := by decide +kernel
theorem dX7_add_46 : decode cX7_add 46 = .ok (.iadd, 1) := by decide +kernel
theorem dX7_add_47 : decode cX7_add 47 = .ok (.putfield 29, 3) := by decide +kernel
theorem dX7_add_50 : decode cX7_add 50 = .ok (.return_, 1) := by decide +kernel
