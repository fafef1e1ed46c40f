theorem dX0_init_0 : decode cX0_init 0 = .ok (.aload_n 0, 1) := by decide +kernel
theorem dX0_init_1 : decode cX0_init 1 = .ok (.invokespecial 3, 3) := by decide +kernel
theorem dX0_init_4 : decode cX0_init 4 = .ok (.aload_n 0, 1) := by decide +kernel
theorem dX0_init_5 : decode cX0_init 5 = .ok (.bipush 6, 2) := by decide +kernel
theorem dX0_init_7 : decode cX0_init 7 = .ok (.newarray .int, 2) := by decide +kernel
theorem dX0_init_9 : decode cX0_init 9 = .ok (.putfield 9, 3) := by decide +kernel
theorem dX0_init_12 : decode cX0_init 12 = .ok (.aload_n 0, 1) := by decide +kernel
theorem dX0_init_13 : decode cX0_init 13 = .ok (.bipush 6, 2) := by decide +kernel
theorem dX0_init_15 : decode cX0_init 15 = .ok (.newarray .int, 2) := by decide +kernel
theorem dX0_init_17 : decode cX0_init 17 = .ok (.putfield 15, 3) := by decide +kernel
theorem dX0_init_20 : decode cX0_init 20 = .ok (.aload_n 0, 1) := by decide +kernel
theorem dX0_init_21 : decode cX0_init 21 = .ok (.iconst 0, 1) := by decide +kernel
theorem dX0_init_22 : decode cX0_init 22 = .ok (.putfield 18, 3) := by decide +kernel
theorem dX0_init_25 : decode cX0_init 25 = .ok (.aload_n 0, 1) := by decide +kernel
theorem dX0_init_26 : decode cX0_init 26 = .ok (.iconst 0, 1) := by decide +kernel
theorem dX0_init_27 : decode cX0_init 27 = .ok (.putfield 22, 3) := by decide +kernel
theorem dX0_init_30 : decode cX0_init 30 = .ok (.aload_n 0, 1) := by decide +kernel
theorem dX0_init_31 : decode cX0_init 31 = .ok (.iconst 1, 1) := by decide +kernel
theorem dX0_init_32 : decode cX0_init 32 = .ok (.putfield 25, 3) := by decide +kernel
theorem dX0_init_35 : decode cX0_init 35 = .ok (.aload_n 0, 1) := by decide +kernel
theorem dX0_init_36 : decode cX0_init 36 = .ok (.iconst 0, 1) := by decide +kernel
theorem dX0_init_37 : decode cX0_init 37 = .ok (.putfield 28, 3) := by decide +kernel
theorem dX0_init_40 : decode cX0_init 40 = .ok (.aload_n 0, 1) := by decide +kernel
theorem dX0_init_41 : decode cX0_init 41 = .ok (.iconst 1, 1) := by decide +kernel
theorem dX0_init_42 : decode cX0_init 42 = .ok (.putfield 31, 3) := by decide +kernel
theorem dX0_init_45 : decode cX0_init 45 = .ok (.aload_n 0, 1) := by decide +kernel
theorem dX0_init_46 : decode cX0_init 46 = .ok (.iconst 1, 1) := by decide +kernel
theorem dX0_init_47 : decode cX0_init 47 = .ok (.putfield 34, 3) := by decide +kernel
theorem dX0_init_50 : decode cX0_init 50 = .ok (.return_, 1) := by decide +kernel
theorem dX0_find_0 : decode cX0_find 0 = .ok (.aload_n 0, 1) := by decide +kernel
theorem dX0_find_1 : decode cX0_find 1 = .ok (.aload_n 1, 1) := by decide +kernel
theorem dX0_find_2 : decode cX0_find 2 = .ok (.invokevirtual 37, 3) := by decide +kernel
theorem dX0_find_5 : decode cX0_find 5 = .ok (.aload_n 0, 1) := by decide +kernel
theorem dX0_find_6 : decode cX0_find 6 = .ok (.getfield 18, 3) := by decide +kernel
theorem dX0_find_9 : decode cX0_find 9 = .ok (.ifCond .le 7, 3) := by decide +kernel
theorem dX0_find_12 : decode cX0_find 12 = .ok (.iconst 1, 1) := by decide +kernel
theorem dX0_find_13 : decode cX0_find 13 = .ok (.goto 4, 3) := by decide +kernel
theorem dX0_find_16 : decode cX0_find 16 = .ok (.iconst 0, 1) := by decide +kernel
theorem dX0_find_17 : decode cX0_find 17 = .ok (.istore 4, 2) := by decide +kernel
theorem dX0_find_19 : decode cX0_find 19 = .ok (.iconst 0, 1) := by decide +kernel
theorem dX0_find_20 : decode cX0_find 20 = .ok (.istore 5, 2) := by decide +kernel
theorem dX0_find_22 : decode cX0_find 22 = .ok (.iload 5, 2) := by decide +kernel
theorem dX0_find_24 : decode cX0_find 24 = .ok (.sipush 720, 3) := by decide +kernel
theorem dX0_find_27 : decode cX0_find 27 = .ok (.if_icmp .ge 57, 3) := by decide +kernel
theorem dX0_find_30 : decode cX0_find 30 = .ok (.iload 4, 2) := by decide +kernel
theorem dX0_find_32 : decode cX0_find 32 = .ok (.ifCond .eq 52, 3) := by decide +kernel
theorem dX0_find_35 : decode cX0_find 35 = .ok (.aload_n 0, 1) := by decide +kernel
theorem dX0_find_36 : decode cX0_find 36 = .ok (.aload_n 1, 1) := by decide +kernel
theorem dX0_find_37 : decode cX0_find 37 = .ok (.iload_n 2, 1) := by decide +kernel
theorem dX0_find_38 : decode cX0_find 38 = .ok (.iload_n 3, 1) := by decide +kernel
theorem dX0_find_39 : decode cX0_find 39 = .ok (.invokevirtual 41, 3) := by decide +kernel
theorem dX0_find_42 : decode cX0_find 42 = .ok (.iload 5, 2) := by decide +kernel
theorem dX0_find_44 : decode cX0_find 44 = .ok (.ifCond .eq 24, 3) := by decide +kernel
theorem dX0_find_47 : decode cX0_find 47 = .ok (.aload_n 0, 1) := by decide +kernel
theorem dX0_find_48 : decode cX0_find 48 = .ok (.getfield 22, 3) := by decide +kernel
theorem dX0_find_51 : decode cX0_find 51 = .ok (.aload_n 0, 1) := by decide +kernel
theorem dX0_find_52 : decode cX0_find 52 = .ok (.getfield 31, 3) := by decide +kernel
theorem dX0_find_55 : decode cX0_find 55 = .ok (.imul, 1) := by decide +kernel
theorem dX0_find_56 : decode cX0_find 56 = .ok (.aload_n 0, 1) := by decide +kernel
theorem dX0_find_57 : decode cX0_find 57 = .ok (.getfield 28, 3) := by decide +kernel
theorem dX0_find_60 : decode cX0_find 60 = .ok (.aload_n 0, 1) := by decide +kernel
theorem dX0_find_61 : decode cX0_find 61 = .ok (.getfield 25, 3) := by decide +kernel
theorem dX0_find_64 : decode cX0_find 64 = .ok (.imul, 1) := by decide +kernel
theorem dX0_find_65 : decode cX0_find 65 = .ok (.if_icmp .ge 7, 3) := by decide +kernel
theorem dX0_find_68 : decode cX0_find 68 = .ok (.aload_n 0, 1) := by decide +kernel
theorem dX0_find_69 : decode cX0_find 69 = .ok (.invokevirtual 45, 3) := by decide +kernel
theorem dX0_find_72 : decode cX0_find 72 = .ok (.aload_n 0, 1) := by decide +kernel
theorem dX0_find_73 : decode cX0_find 73 = .ok (.invokevirtual 48, 3) := by decide +kernel
theorem dX0_find_76 : decode cX0_find 76 = .ok (.istore 4, 2) := by decide +kernel
theorem dX0_find_78 : decode cX0_find 78 = .ok (.iinc 5 1, 3) := by decide +kernel
theorem dX0_find_81 : decode cX0_find 81 = .ok (.goto (-59), 3) := by decide +kernel
theorem dX0_find_84 : decode cX0_find 84 = .ok (.return_, 1) := by decide +kernel
theorem dX0_begin_0 : decode cX0_begin 0 = .ok (.aload_n 0, 1) := by decide +kernel
theorem dX0_begin_1 : decode cX0_begin 1 = .ok (.aload_n 1, 1) := by decide +kernel
theorem dX0_begin_2 : decode cX0_begin 2 = .ok (.invokevirtual 52, 3) := by decide +kernel
theorem dX0_begin_5 : decode cX0_begin 5 = .ok (.bipush 6, 2) := by decide +kernel
theorem dX0_begin_7 : decode cX0_begin 7 = .ok (.if_icmp .gt 10, 3) := by decide +kernel
theorem dX0_begin_10 : decode cX0_begin 10 = .ok (.aload_n 1, 1) := by decide +kernel
theorem dX0_begin_11 : decode cX0_begin 11 = .ok (.invokevirtual 52, 3) := by decide +kernel
theorem dX0_begin_14 : decode cX0_begin 14 = .ok (.goto 4, 3) := by decide +kernel
theorem dX0_begin_17 : decode cX0_begin 17 = .ok (.iconst 0, 1) := by decide +kernel
theorem dX0_begin_18 : decode cX0_begin 18 = .ok (.putfield 18, 3) := by decide +kernel
theorem dX0_begin_21 : decode cX0_begin 21 = .ok (.aload_n 0, 1) := by decide +kernel
theorem dX0_begin_22 : decode cX0_begin 22 = .ok (.aload_n 0, 1) := by decide +kernel
theorem dX0_begin_23 : decode cX0_begin 23 = .ok (.getfield 18, 3) := by decide +kernel
theorem dX0_begin_26 : decode cX0_begin 26 = .ok (.ifCond .le 10, 3) := by decide +kernel
theorem dX0_begin_29 : decode cX0_begin 29 = .ok (.aload_n 1, 1) := by decide +kernel
theorem dX0_begin_30 : decode cX0_begin 30 = .ok (.invokevirtual 57, 3) := by decide +kernel
theorem dX0_begin_33 : decode cX0_begin 33 = .ok (.goto 4, 3) := by decide +kernel
theorem dX0_begin_36 : decode cX0_begin 36 = .ok (.iconst 1, 1) := by decide +kernel
theorem dX0_begin_37 : decode cX0_begin 37 = .ok (.putfield 34, 3) := by decide +kernel
theorem dX0_begin_40 : decode cX0_begin 40 = .ok (.aload_n 0, 1) := by decide +kernel
theorem dX0_begin_41 : decode cX0_begin 41 = .ok (.iconst 0, 1) := by decide +kernel
theorem dX0_begin_42 : decode cX0_begin 42 = .ok (.putfield 28, 3) := by decide +kernel
theorem dX0_begin_45 : decode cX0_begin 45 = .ok (.aload_n 0, 1) := by decide +kernel
theorem dX0_begin_46 : decode cX0_begin 46 = .ok (.iconst 1, 1) := by decide +kernel
theorem dX0_begin_47 : decode cX0_begin 47 = .ok (.putfield 31, 3) := by decide +kernel
theorem dX0_begin_50 : decode cX0_begin 50 = .ok (.iconst 0, 1) := by decide +kernel
theorem dX0_begin_51 : decode cX0_begin 51 = .ok (.istore_n 2, 1) := by decide +kernel
theorem dX0_begin_52 : decode cX0_begin 52 = .ok (.iload_n 2, 1) := by decide +kernel
theorem dX0_begin_53 : decode cX0_begin 53 = .ok (.bipush 6, 2) := by decide +kernel
theorem dX0_begin_55 : decode cX0_begin 55 = .ok (.if_icmp .ge 16, 3) := by decide +kernel
theorem dX0_begin_58 : decode cX0_begin 58 = .ok (.aload_n 0, 1) := by decide +kernel
theorem dX0_begin_59 : decode cX0_begin 59 = .ok (.getfield 9, 3) := by decide +kernel
theorem dX0_begin_62 : decode cX0_begin 62 = .ok (.iload_n 2, 1) := by decide +kernel
theorem dX0_begin_63 : decode cX0_begin 63 = .ok (.iload_n 2, 1) := by decide +kernel
theorem dX0_begin_64 : decode cX0_begin 64 = .ok (.iastore, 1) := by decide +kernel
theorem dX0_begin_65 : decode cX0_begin 65 = .ok (.iinc 2 1, 3) := by decide +kernel
theorem dX0_begin_68 : decode cX0_begin 68 = .ok (.goto (-16), 3) := by decide +kernel
theorem dX0_begin_71 : decode cX0_begin 71 = .ok (.return_, 1) := by decide +kernel
theorem dX0_weigh_0 : decode cX0_weigh 0 = .ok (.aload_n 0, 1) := by decide +kernel
theorem dX0_weigh_1 : decode cX0_weigh 1 = .ok (.iconst 0, 1) := by decide +kernel
theorem dX0_weigh_2 : decode cX0_weigh 2 = .ok (.putfield 22, 3) := by decide +kernel
theorem dX0_weigh_5 : decode cX0_weigh 5 = .ok (.aload_n 0, 1) := by decide +kernel
theorem dX0_weigh_6 : decode cX0_weigh 6 = .ok (.iconst 1, 1) := by decide +kernel
theorem dX0_weigh_7 : decode cX0_weigh 7 = .ok (.putfield 25, 3) := by decide +kernel
theorem dX0_weigh_10 : decode cX0_weigh 10 = .ok (.iconst 0, 1) := by decide +kernel
theorem dX0_weigh_11 : decode cX0_weigh 11 = .ok (.istore 4, 2) := by decide +kernel
theorem dX0_weigh_13 : decode cX0_weigh 13 = .ok (.iconst 0, 1) := by decide +kernel
theorem dX0_weigh_14 : decode cX0_weigh 14 = .ok (.istore 5, 2) := by decide +kernel
theorem dX0_weigh_16 : decode cX0_weigh 16 = .ok (.iload 5, 2) := by decide +kernel
theorem dX0_weigh_18 : decode cX0_weigh 18 = .ok (.aload_n 0, 1) := by decide +kernel
theorem dX0_weigh_19 : decode cX0_weigh 19 = .ok (.getfield 18, 3) := by decide +kernel
theorem dX0_weigh_22 : decode cX0_weigh 22 = .ok (.if_icmp .ge 80, 3) := by decide +kernel
theorem dX0_weigh_25 : decode cX0_weigh 25 = .ok (.iload 5, 2) := by decide +kernel
theorem dX0_weigh_27 : decode cX0_weigh 27 = .ok (.bipush 6, 2) := by decide +kernel
theorem dX0_weigh_29 : decode cX0_weigh 29 = .ok (.if_icmp .ge 73, 3) := by decide +kernel
theorem dX0_weigh_32 : decode cX0_weigh 32 = .ok (.aload_n 1, 1) := by decide +kernel
theorem dX0_weigh_33 : decode cX0_weigh 33 = .ok (.aload_n 0, 1) := by decide +kernel
theorem dX0_weigh_34 : decode cX0_weigh 34 = .ok (.getfield 9, 3) := by decide +kernel
theorem dX0_weigh_37 : decode cX0_weigh 37 = .ok (.iload 5, 2) := by decide +kernel
theorem dX0_weigh_39 : decode cX0_weigh 39 = .ok (.iaload, 1) := by decide +kernel
theorem dX0_weigh_40 : decode cX0_weigh 40 = .ok (.invokevirtual 59, 3) := by decide +kernel
theorem dX0_weigh_43 : decode cX0_weigh 43 = .ok (.istore 6, 2) := by decide +kernel
theorem dX0_weigh_45 : decode cX0_weigh 45 = .ok (.iload_n 2, 1) := by decide +kernel
theorem dX0_weigh_46 : decode cX0_weigh 46 = .ok (.iload_n 3, 1) := by decide +kernel
theorem dX0_weigh_47 : decode cX0_weigh 47 = .ok (.iadd, 1) := by decide +kernel
theorem dX0_weigh_48 : decode cX0_weigh 48 = .ok (.iload 4, 2) := by decide +kernel
theorem dX0_weigh_50 : decode cX0_weigh 50 = .ok (.imul, 1) := by decide +kernel
theorem dX0_weigh_51 : decode cX0_weigh 51 = .ok (.iload_n 2, 1) := by decide +kernel
theorem dX0_weigh_52 : decode cX0_weigh 52 = .ok (.aload_n 0, 1) := by decide +kernel
theorem dX0_weigh_53 : decode cX0_weigh 53 = .ok (.getfield 34, 3) := by decide +kernel
theorem dX0_weigh_56 : decode cX0_weigh 56 = .ok (.imul, 1) := by decide +kernel
theorem dX0_weigh_57 : decode cX0_weigh 57 = .ok (.isub, 1) := by decide +kernel
theorem dX0_weigh_58 : decode cX0_weigh 58 = .ok (.istore 7, 2) := by decide +kernel
theorem dX0_weigh_60 : decode cX0_weigh 60 = .ok (.iload 7, 2) := by decide +kernel
theorem dX0_weigh_62 : decode cX0_weigh 62 = .ok (.aload_n 0, 1) := by decide +kernel
theorem dX0_weigh_63 : decode cX0_weigh 63 = .ok (.getfield 25, 3) := by decide +kernel
theorem dX0_weigh_66 : decode cX0_weigh 66 = .ok (.imul, 1) := by decide +kernel
theorem dX0_weigh_67 : decode cX0_weigh 67 = .ok (.aload_n 0, 1) := by decide +kernel
theorem dX0_weigh_68 : decode cX0_weigh 68 = .ok (.getfield 22, 3) := by decide +kernel
theorem dX0_weigh_71 : decode cX0_weigh 71 = .ok (.iload 6, 2) := by decide +kernel
theorem dX0_weigh_73 : decode cX0_weigh 73 = .ok (.imul, 1) := by decide +kernel
theorem dX0_weigh_74 : decode cX0_weigh 74 = .ok (.if_icmp .le 15, 3) := by decide +kernel
theorem dX0_weigh_77 : decode cX0_weigh 77 = .ok (.aload_n 0, 1) := by decide +kernel
theorem dX0_weigh_78 : decode cX0_weigh 78 = .ok (.iload 7, 2) := by decide +kernel
theorem dX0_weigh_80 : decode cX0_weigh 80 = .ok (.putfield 22, 3) := by decide +kernel
theorem dX0_weigh_83 : decode cX0_weigh 83 = .ok (.aload_n 0, 1) := by decide +kernel
theorem dX0_weigh_84 : decode cX0_weigh 84 = .ok (.iload 6, 2) := by decide +kernel
theorem dX0_weigh_86 : decode cX0_weigh 86 = .ok (.putfield 25, 3) := by decide +kernel
theorem dX0_weigh_89 : decode cX0_weigh 89 = .ok (.iload 4, 2) := by decide +kernel
theorem dX0_weigh_91 : decode cX0_weigh 91 = .ok (.iload 6, 2) := by decide +kernel
theorem dX0_weigh_93 : decode cX0_weigh 93 = .ok (.iadd, 1) := by decide +kernel
theorem dX0_weigh_94 : decode cX0_weigh 94 = .ok (.istore 4, 2) := by decide +kernel
theorem dX0_weigh_96 : decode cX0_weigh 96 = .ok (.iinc 5 1, 3) := by decide +kernel
theorem dX0_weigh_99 : decode cX0_weigh 99 = .ok (.goto (-83), 3) := by decide +kernel
theorem dX0_weigh_102 : decode cX0_weigh 102 = .ok (.return_, 1) := by decide +kernel
theorem dX0_keep_0 : decode cX0_keep 0 = .ok (.aload_n 0, 1) := by decide +kernel
theorem dX0_keep_1 : decode cX0_keep 1 = .ok (.getfield 9, 3) := by decide +kernel
theorem dX0_keep_4 : decode cX0_keep 4 = .ok (.iconst 0, 1) := by decide +kernel
theorem dX0_keep_5 : decode cX0_keep 5 = .ok (.aload_n 0, 1) := by decide +kernel
theorem dX0_keep_6 : decode cX0_keep 6 = .ok (.getfield 15, 3) := by decide +kernel
theorem dX0_keep_9 : decode cX0_keep 9 = .ok (.iconst 0, 1) := by decide +kernel
theorem dX0_keep_10 : decode cX0_keep 10 = .ok (.bipush 6, 2) := by decide +kernel
theorem dX0_keep_12 : decode cX0_keep 12 = .ok (.invokestatic 63, 3) := by decide +kernel
theorem dX0_keep_15 : decode cX0_keep 15 = .ok (.aload_n 0, 1) := by decide +kernel
theorem dX0_keep_16 : decode cX0_keep 16 = .ok (.aload_n 0, 1) := by decide +kernel
theorem dX0_keep_17 : decode cX0_keep 17 = .ok (.getfield 22, 3) := by decide +kernel
theorem dX0_keep_20 : decode cX0_keep 20 = .ok (.putfield 28, 3) := by decide +kernel
theorem dX0_keep_23 : decode cX0_keep 23 = .ok (.aload_n 0, 1) := by decide +kernel
theorem dX0_keep_24 : decode cX0_keep 24 = .ok (.aload_n 0, 1) := by decide +kernel
theorem dX0_keep_25 : decode cX0_keep 25 = .ok (.getfield 25, 3) := by decide +kernel
theorem dX0_keep_28 : decode cX0_keep 28 = .ok (.putfield 31, 3) := by decide +kernel
theorem dX0_keep_31 : decode cX0_keep 31 = .ok (.return_, 1) := by decide +kernel
theorem dX0_stepOn_0 : decode cX0_stepOn 0 = .ok (.aload_n 0, 1) := by decide +kernel
theorem dX0_stepOn_1 : decode cX0_stepOn 1 = .ok (.getfield 18, 3) := by decide +kernel
theorem dX0_stepOn_4 : decode cX0_stepOn 4 = .ok (.iconst 2, 1) := by decide +kernel
theorem dX0_stepOn_5 : decode cX0_stepOn 5 = .ok (.isub, 1) := by decide +kernel
theorem dX0_stepOn_6 : decode cX0_stepOn 6 = .ok (.istore_n 1, 1) := by decide +kernel
theorem dX0_stepOn_7 : decode cX0_stepOn 7 = .ok (.iload_n 1, 1) := by decide +kernel
theorem dX0_stepOn_8 : decode cX0_stepOn 8 = .ok (.ifCond .lt 34, 3) := by decide +kernel
theorem dX0_stepOn_11 : decode cX0_stepOn 11 = .ok (.iload_n 1, 1) := by decide +kernel
theorem dX0_stepOn_12 : decode cX0_stepOn 12 = .ok (.iconst 1, 1) := by decide +kernel
theorem dX0_stepOn_13 : decode cX0_stepOn 13 = .ok (.iadd, 1) := by decide +kernel
theorem dX0_stepOn_14 : decode cX0_stepOn 14 = .ok (.bipush 6, 2) := by decide +kernel
theorem dX0_stepOn_16 : decode cX0_stepOn 16 = .ok (.if_icmp .ge 26, 3) := by decide +kernel
theorem dX0_stepOn_19 : decode cX0_stepOn 19 = .ok (.aload_n 0, 1) := by decide +kernel
theorem dX0_stepOn_20 : decode cX0_stepOn 20 = .ok (.getfield 9, 3) := by decide +kernel
theorem dX0_stepOn_23 : decode cX0_stepOn 23 = .ok (.iload_n 1, 1) := by decide +kernel
theorem dX0_stepOn_24 : decode cX0_stepOn 24 = .ok (.iaload, 1) := by decide +kernel
theorem dX0_stepOn_25 : decode cX0_stepOn 25 = .ok (.aload_n 0, 1) := by decide +kernel
theorem dX0_stepOn_26 : decode cX0_stepOn 26 = .ok (.getfield 9, 3) := by decide +kernel
theorem dX0_stepOn_29 : decode cX0_stepOn 29 = .ok (.iload_n 1, 1) := by decide +kernel
theorem dX0_stepOn_30 : decode cX0_stepOn 30 = .ok (.iconst 1, 1) := by decide +kernel
theorem dX0_stepOn_31 : decode cX0_stepOn 31 = .ok (.iadd, 1) := by decide +kernel
theorem dX0_stepOn_32 : decode cX0_stepOn 32 = .ok (.iaload, 1) := by decide +kernel
theorem dX0_stepOn_33 : decode cX0_stepOn 33 = .ok (.if_icmp .le 9, 3) := by decide +kernel
theorem dX0_stepOn_36 : decode cX0_stepOn 36 = .ok (.iinc 1 (-1), 3) := by decide +kernel
theorem dX0_stepOn_39 : decode cX0_stepOn 39 = .ok (.goto (-32), 3) := by decide +kernel
theorem dX0_stepOn_42 : decode cX0_stepOn 42 = .ok (.iload_n 1, 1) := by decide +kernel
theorem dX0_stepOn_43 : decode cX0_stepOn 43 = .ok (.ifCond .ge 5, 3) := by decide +kernel
theorem dX0_stepOn_46 : decode cX0_stepOn 46 = .ok (.iconst 0, 1) := by decide +kernel
theorem dX0_stepOn_47 : decode cX0_stepOn 47 = .ok (.ireturn, 1) := by decide +kernel
theorem dX0_stepOn_48 : decode cX0_stepOn 48 = .ok (.aload_n 0, 1) := by decide +kernel
theorem dX0_stepOn_49 : decode cX0_stepOn 49 = .ok (.getfield 18, 3) := by decide +kernel
theorem dX0_stepOn_52 : decode cX0_stepOn 52 = .ok (.bipush 6, 2) := by decide +kernel
theorem dX0_stepOn_54 : decode cX0_stepOn 54 = .ok (.invokestatic 69, 3) := by decide +kernel
theorem dX0_stepOn_57 : decode cX0_stepOn 57 = .ok (.iconst 1, 1) := by decide +kernel
theorem dX0_stepOn_58 : decode cX0_stepOn 58 = .ok (.isub, 1) := by decide +kernel
theorem dX0_stepOn_59 : decode cX0_stepOn 59 = .ok (.istore_n 2, 1) := by decide +kernel
theorem dX0_stepOn_60 : decode cX0_stepOn 60 = .ok (.iload_n 2, 1) := by decide +kernel
theorem dX0_stepOn_61 : decode cX0_stepOn 61 = .ok (.iload_n 1, 1) := by decide +kernel
theorem dX0_stepOn_62 : decode cX0_stepOn 62 = .ok (.if_icmp .le 24, 3) := by decide +kernel
theorem dX0_stepOn_65 : decode cX0_stepOn 65 = .ok (.aload_n 0, 1) := by decide +kernel
theorem dX0_stepOn_66 : decode cX0_stepOn 66 = .ok (.getfield 9, 3) := by decide +kernel
theorem dX0_stepOn_69 : decode cX0_stepOn 69 = .ok (.iload_n 2, 1) := by decide +kernel
theorem dX0_stepOn_70 : decode cX0_stepOn 70 = .ok (.iaload, 1) := by decide +kernel
theorem dX0_stepOn_71 : decode cX0_stepOn 71 = .ok (.aload_n 0, 1) := by decide +kernel
theorem dX0_stepOn_72 : decode cX0_stepOn 72 = .ok (.getfield 9, 3) := by decide +kernel
theorem dX0_stepOn_75 : decode cX0_stepOn 75 = .ok (.iload_n 1, 1) := by decide +kernel
theorem dX0_stepOn_76 : decode cX0_stepOn 76 = .ok (.iaload, 1) := by decide +kernel
theorem dX0_stepOn_77 : decode cX0_stepOn 77 = .ok (.if_icmp .ge 9, 3) := by decide +kernel
theorem dX0_stepOn_80 : decode cX0_stepOn 80 = .ok (.iinc 2 (-1), 3) := by decide +kernel
theorem dX0_stepOn_83 : decode cX0_stepOn 83 = .ok (.goto (-23), 3) := by decide +kernel
theorem dX0_stepOn_86 : decode cX0_stepOn 86 = .ok (.aload_n 0, 1) := by decide +kernel
theorem dX0_stepOn_87 : decode cX0_stepOn 87 = .ok (.iload_n 1, 1) := by decide +kernel
theorem dX0_stepOn_88 : decode cX0_stepOn 88 = .ok (.iload_n 2, 1) := by decide +kernel
theorem dX0_stepOn_89 : decode cX0_stepOn 89 = .ok (.invokevirtual 75, 3) := by decide +kernel
theorem dX0_stepOn_92 : decode cX0_stepOn 92 = .ok (.iload_n 1, 1) := by decide +kernel
theorem dX0_stepOn_93 : decode cX0_stepOn 93 = .ok (.iconst 1, 1) := by decide +kernel
theorem dX0_stepOn_94 : decode cX0_stepOn 94 = .ok (.iadd, 1) := by decide +kernel
theorem dX0_stepOn_95 : decode cX0_stepOn 95 = .ok (.istore_n 3, 1) := by decide +kernel
theorem dX0_stepOn_96 : decode cX0_stepOn 96 = .ok (.aload_n 0, 1) := by decide +kernel
theorem dX0_stepOn_97 : decode cX0_stepOn 97 = .ok (.getfield 18, 3) := by decide +kernel
theorem dX0_stepOn_100 : decode cX0_stepOn 100 = .ok (.iconst 1, 1) := by decide +kernel
theorem dX0_stepOn_101 : decode cX0_stepOn 101 = .ok (.isub, 1) := by decide +kernel
theorem dX0_stepOn_102 : decode cX0_stepOn 102 = .ok (.istore 4, 2) := by decide +kernel
theorem dX0_stepOn_104 : decode cX0_stepOn 104 = .ok (.iload_n 3, 1) := by decide +kernel
theorem dX0_stepOn_105 : decode cX0_stepOn 105 = .ok (.iload 4, 2) := by decide +kernel
theorem dX0_stepOn_107 : decode cX0_stepOn 107 = .ok (.if_icmp .ge 19, 3) := by decide +kernel
theorem dX0_stepOn_110 : decode cX0_stepOn 110 = .ok (.aload_n 0, 1) := by decide +kernel
theorem dX0_stepOn_111 : decode cX0_stepOn 111 = .ok (.iload_n 3, 1) := by decide +kernel
theorem dX0_stepOn_112 : decode cX0_stepOn 112 = .ok (.iload 4, 2) := by decide +kernel
theorem dX0_stepOn_114 : decode cX0_stepOn 114 = .ok (.invokevirtual 75, 3) := by decide +kernel
theorem dX0_stepOn_117 : decode cX0_stepOn 117 = .ok (.iinc 3 1, 3) := by decide +kernel
theorem dX0_stepOn_120 : decode cX0_stepOn 120 = .ok (.iinc 4 (-1), 3) := by decide +kernel
theorem dX0_stepOn_123 : decode cX0_stepOn 123 = .ok (.goto (-19), 3) := by decide +kernel
theorem dX0_stepOn_126 : decode cX0_stepOn 126 = .ok (.iconst 1, 1) := by decide +kernel
theorem dX0_stepOn_127 : decode cX0_stepOn 127 = .ok (.ireturn, 1) := by decide +kernel
theorem dX0_swap_0 : decode cX0_swap 0 = .ok (.iload_n 1, 1) := by decide +kernel
theorem dX0_swap_1 : decode cX0_swap 1 = .ok (.ifCond .lt 45, 3) := by decide +kernel
theorem dX0_swap_4 : decode cX0_swap 4 = .ok (.iload_n 1, 1) := by decide +kernel
theorem dX0_swap_5 : decode cX0_swap 5 = .ok (.bipush 6, 2) := by decide +kernel
theorem dX0_swap_7 : decode cX0_swap 7 = .ok (.if_icmp .ge 39, 3) := by decide +kernel
theorem dX0_swap_10 : decode cX0_swap 10 = .ok (.iload_n 2, 1) := by decide +kernel
theorem dX0_swap_11 : decode cX0_swap 11 = .ok (.ifCond .lt 35, 3) := by decide +kernel
theorem dX0_swap_14 : decode cX0_swap 14 = .ok (.iload_n 2, 1) := by decide +kernel
theorem dX0_swap_15 : decode cX0_swap 15 = .ok (.bipush 6, 2) := by decide +kernel
theorem dX0_swap_17 : decode cX0_swap 17 = .ok (.if_icmp .ge 29, 3) := by decide +kernel
theorem dX0_swap_20 : decode cX0_swap 20 = .ok (.aload_n 0, 1) := by decide +kernel
theorem dX0_swap_21 : decode cX0_swap 21 = .ok (.getfield 9, 3) := by decide +kernel
theorem dX0_swap_24 : decode cX0_swap 24 = .ok (.iload_n 1, 1) := by decide +kernel
theorem dX0_swap_25 : decode cX0_swap 25 = .ok (.iaload, 1) := by decide +kernel
theorem dX0_swap_26 : decode cX0_swap 26 = .ok (.istore_n 3, 1) := by decide +kernel
theorem dX0_swap_27 : decode cX0_swap 27 = .ok (.aload_n 0, 1) := by decide +kernel
theorem dX0_swap_28 : decode cX0_swap 28 = .ok (.getfield 9, 3) := by decide +kernel
theorem dX0_swap_31 : decode cX0_swap 31 = .ok (.iload_n 1, 1) := by decide +kernel
theorem dX0_swap_32 : decode cX0_swap 32 = .ok (.aload_n 0, 1) := by decide +kernel
theorem dX0_swap_33 : decode cX0_swap 33 = .ok (.getfield 9, 3) := by decide +kernel
theorem dX0_swap_36 : decode cX0_swap 36 = .ok (.iload_n 2, 1) := by decide +kernel
theorem dX0_swap_37 : decode cX0_swap 37 = .ok (.iaload, 1) := by decide +kernel
theorem dX0_swap_38 : decode cX0_swap 38 = .ok (.iastore, 1) := by decide +kernel
theorem dX0_swap_39 : decode cX0_swap 39 = .ok (.aload_n 0, 1) := by decide +kernel
theorem dX0_swap_40 : decode cX0_swap 40 = .ok (.getfield 9, 3) := by decide +kernel
theorem dX0_swap_43 : decode cX0_swap 43 = .ok (.iload_n 2, 1) := by decide +kernel
theorem dX0_swap_44 : decode cX0_swap 44 = .ok (.iload_n 3, 1) := by decide +kernel
theorem dX0_swap_45 : decode cX0_swap 45 = .ok (.iastore, 1) := by decide +kernel
theorem dX0_swap_46 : decode cX0_swap 46 = .ok (.return_, 1) := by decide +kernel
theorem dX0_wagonAt_0 : decode cX0_wagonAt 0 = .ok (.iload_n 1, 1) := by decide +kernel
theorem dX0_wagonAt_1 : decode cX0_wagonAt 1 = .ok (.ifCond .lt 26, 3) := by decide +kernel
theorem dX0_wagonAt_4 : decode cX0_wagonAt 4 = .ok (.iload_n 1, 1) := by decide +kernel
theorem dX0_wagonAt_5 : decode cX0_wagonAt 5 = .ok (.aload_n 0, 1) := by decide +kernel
theorem dX0_wagonAt_6 : decode cX0_wagonAt 6 = .ok (.getfield 18, 3) := by decide +kernel
theorem dX0_wagonAt_9 : decode cX0_wagonAt 9 = .ok (.if_icmp .ge 18, 3) := by decide +kernel
theorem dX0_wagonAt_12 : decode cX0_wagonAt 12 = .ok (.iload_n 1, 1) := by decide +kernel
theorem dX0_wagonAt_13 : decode cX0_wagonAt 13 = .ok (.bipush 6, 2) := by decide +kernel
theorem dX0_wagonAt_15 : decode cX0_wagonAt 15 = .ok (.if_icmp .ge 12, 3) := by decide +kernel
theorem dX0_wagonAt_18 : decode cX0_wagonAt 18 = .ok (.aload_n 0, 1) := by decide +kernel
theorem dX0_wagonAt_19 : decode cX0_wagonAt 19 = .ok (.getfield 15, 3) := by decide +kernel
theorem dX0_wagonAt_22 : decode cX0_wagonAt 22 = .ok (.iload_n 1, 1) := by decide +kernel
theorem dX0_wagonAt_23 : decode cX0_wagonAt 23 = .ok (.iaload, 1) := by decide +kernel
theorem dX0_wagonAt_24 : decode cX0_wagonAt 24 = .ok (.goto 4, 3) := by decide +kernel
theorem dX0_wagonAt_27 : decode cX0_wagonAt 27 = .ok (.iconst (-1), 1) := by decide +kernel
theorem dX0_wagonAt_28 : decode cX0_wagonAt 28 = .ok (.ireturn, 1) := by decide +kernel
theorem dX0_squeezeAbove_0 : decode cX0_squeezeAbove 0 = .ok (.aload_n 0, 1) := by decide +kernel
theorem dX0_squeezeAbove_1 : decode cX0_squeezeAbove 1 = .ok (.getfield 28, 3) := by decide +kernel
theorem dX0_squeezeAbove_4 : decode cX0_squeezeAbove 4 = .ok (.ireturn, 1) := by decide +kernel
theorem dX0_squeezeBelow_0 : decode cX0_squeezeBelow 0 = .ok (.aload_n 0, 1) := by decide +kernel
theorem dX0_squeezeBelow_1 : decode cX0_squeezeBelow 1 = .ok (.getfield 31, 3) := by decide +kernel
theorem dX0_squeezeBelow_4 : decode cX0_squeezeBelow 4 = .ok (.aload_n 0, 1) := by decide +kernel
theorem dX0_squeezeBelow_5 : decode cX0_squeezeBelow 5 = .ok (.getfield 34, 3) := by decide +kernel
theorem dX0_squeezeBelow_8 : decode cX0_squeezeBelow 8 = .ok (.imul, 1) := by decide +kernel
theorem dX0_squeezeBelow_9 : decode cX0_squeezeBelow 9 = .ok (.ireturn, 1) := by decide +kernel
theorem dX1_init_0 : decode cX1_init 0 = .ok (.aload_n 0, 1) := by decide +kernel
theorem dX1_init_1 : decode cX1_init 1 = .ok (.invokespecial 3, 3) := by decide +kernel
theorem dX1_init_4 : decode cX1_init 4 = .ok (.aload_n 0, 1) := by decide +kernel
theorem dX1_init_5 : decode cX1_init 5 = .ok (.bipush 12, 2) := by decide +kernel
theorem dX1_init_7 : decode cX1_init 7 = .ok (.newarray .int, 2) := by decide +kernel
theorem dX1_init_9 : decode cX1_init 9 = .ok (.putfield 9, 3) := by decide +kernel
theorem dX1_init_12 : decode cX1_init 12 = .ok (.aload_n 0, 1) := by decide +kernel
theorem dX1_init_13 : decode cX1_init 13 = .ok (.bipush 13, 2) := by decide +kernel
theorem dX1_init_15 : decode cX1_init 15 = .ok (.newarray .int, 2) := by decide +kernel
theorem dX1_init_17 : decode cX1_init 17 = .ok (.putfield 15, 3) := by decide +kernel
theorem dX1_init_20 : decode cX1_init 20 = .ok (.aload_n 0, 1) := by decide +kernel
theorem dX1_init_21 : decode cX1_init 21 = .ok (.iconst 0, 1) := by decide +kernel
theorem dX1_init_22 : decode cX1_init 22 = .ok (.putfield 18, 3) := by decide +kernel
theorem dX1_init_25 : decode cX1_init 25 = .ok (.aload_n 0, 1) := by decide +kernel
theorem dX1_init_26 : decode cX1_init 26 = .ok (.iconst 0, 1) := by decide +kernel
theorem dX1_init_27 : decode cX1_init 27 = .ok (.putfield 22, 3) := by decide +kernel
theorem dX1_init_30 : decode cX1_init 30 = .ok (.aload_n 0, 1) := by decide +kernel
theorem dX1_init_31 : decode cX1_init 31 = .ok (.iconst (-1), 1) := by decide +kernel
theorem dX1_init_32 : decode cX1_init 32 = .ok (.putfield 25, 3) := by decide +kernel
theorem dX1_init_35 : decode cX1_init 35 = .ok (.return_, 1) := by decide +kernel
theorem dX1_load_0 : decode cX1_load 0 = .ok (.aload_n 0, 1) := by decide +kernel
theorem dX1_load_1 : decode cX1_load 1 = .ok (.aload_n 1, 1) := by decide +kernel
theorem dX1_load_2 : decode cX1_load 2 = .ok (.invokestatic 28, 3) := by decide +kernel
theorem dX1_load_5 : decode cX1_load 5 = .ok (.putfield 25, 3) := by decide +kernel
theorem dX1_load_8 : decode cX1_load 8 = .ok (.aload_n 0, 1) := by decide +kernel
theorem dX1_load_9 : decode cX1_load 9 = .ok (.aload_n 0, 1) := by decide +kernel
theorem dX1_load_10 : decode cX1_load 10 = .ok (.getfield 25, 3) := by decide +kernel
theorem dX1_load_13 : decode cX1_load 13 = .ok (.iconst (-1), 1) := by decide +kernel
theorem dX1_load_14 : decode cX1_load 14 = .ok (.if_icmp .ne 15, 3) := by decide +kernel
theorem dX1_load_17 : decode cX1_load 17 = .ok (.aload_n 1, 1) := by decide +kernel
theorem dX1_load_18 : decode cX1_load 18 = .ok (.invokevirtual 32, 3) := by decide +kernel
theorem dX1_load_21 : decode cX1_load 21 = .ok (.bipush 12, 2) := by decide +kernel
theorem dX1_load_23 : decode cX1_load 23 = .ok (.invokestatic 37, 3) := by decide +kernel
theorem dX1_load_26 : decode cX1_load 26 = .ok (.goto 4, 3) := by decide +kernel
theorem dX1_load_29 : decode cX1_load 29 = .ok (.iconst 0, 1) := by decide +kernel
theorem dX1_load_30 : decode cX1_load 30 = .ok (.putfield 18, 3) := by decide +kernel
theorem dX1_load_33 : decode cX1_load 33 = .ok (.aload_n 0, 1) := by decide +kernel
theorem dX1_load_34 : decode cX1_load 34 = .ok (.iconst 0, 1) := by decide +kernel
theorem dX1_load_35 : decode cX1_load 35 = .ok (.putfield 22, 3) := by decide +kernel
theorem dX1_load_38 : decode cX1_load 38 = .ok (.aload_n 0, 1) := by decide +kernel
theorem dX1_load_39 : decode cX1_load 39 = .ok (.getfield 15, 3) := by decide +kernel
theorem dX1_load_42 : decode cX1_load 42 = .ok (.iconst 0, 1) := by decide +kernel
theorem dX1_load_43 : decode cX1_load 43 = .ok (.iconst 0, 1) := by decide +kernel
theorem dX1_load_44 : decode cX1_load 44 = .ok (.iastore, 1) := by decide +kernel
theorem dX1_load_45 : decode cX1_load 45 = .ok (.iconst 0, 1) := by decide +kernel
theorem dX1_load_46 : decode cX1_load 46 = .ok (.istore_n 2, 1) := by decide +kernel
theorem dX1_load_47 : decode cX1_load 47 = .ok (.iload_n 2, 1) := by decide +kernel
theorem dX1_load_48 : decode cX1_load 48 = .ok (.aload_n 0, 1) := by decide +kernel
theorem dX1_load_49 : decode cX1_load 49 = .ok (.getfield 18, 3) := by decide +kernel
theorem dX1_load_52 : decode cX1_load 52 = .ok (.if_icmp .ge 56, 3) := by decide +kernel
theorem dX1_load_55 : decode cX1_load 55 = .ok (.iload_n 2, 1) := by decide +kernel
theorem dX1_load_56 : decode cX1_load 56 = .ok (.bipush 12, 2) := by decide +kernel
theorem dX1_load_58 : decode cX1_load 58 = .ok (.if_icmp .ge 50, 3) := by decide +kernel
theorem dX1_load_61 : decode cX1_load 61 = .ok (.aload_n 0, 1) := by decide +kernel
theorem dX1_load_62 : decode cX1_load 62 = .ok (.getfield 9, 3) := by decide +kernel
theorem dX1_load_65 : decode cX1_load 65 = .ok (.iload_n 2, 1) := by decide +kernel
theorem dX1_load_66 : decode cX1_load 66 = .ok (.aload_n 1, 1) := by decide +kernel
theorem dX1_load_67 : decode cX1_load 67 = .ok (.iload_n 2, 1) := by decide +kernel
theorem dX1_load_68 : decode cX1_load 68 = .ok (.invokevirtual 43, 3) := by decide +kernel
theorem dX1_load_71 : decode cX1_load 71 = .ok (.bipush 48, 2) := by decide +kernel
theorem dX1_load_73 : decode cX1_load 73 = .ok (.isub, 1) := by decide +kernel
theorem dX1_load_74 : decode cX1_load 74 = .ok (.iastore, 1) := by decide +kernel
theorem dX1_load_75 : decode cX1_load 75 = .ok (.aload_n 0, 1) := by decide +kernel
theorem dX1_load_76 : decode cX1_load 76 = .ok (.dup, 1) := by decide +kernel
theorem dX1_load_77 : decode cX1_load 77 = .ok (.getfield 22, 3) := by decide +kernel
theorem dX1_load_80 : decode cX1_load 80 = .ok (.aload_n 0, 1) := by decide +kernel
theorem dX1_load_81 : decode cX1_load 81 = .ok (.getfield 9, 3) := by decide +kernel
theorem dX1_load_84 : decode cX1_load 84 = .ok (.iload_n 2, 1) := by decide +kernel
theorem dX1_load_85 : decode cX1_load 85 = .ok (.iaload, 1) := by decide +kernel
theorem dX1_load_86 : decode cX1_load 86 = .ok (.iadd, 1) := by decide +kernel
theorem dX1_load_87 : decode cX1_load 87 = .ok (.putfield 22, 3) := by decide +kernel
theorem dX1_load_90 : decode cX1_load 90 = .ok (.aload_n 0, 1) := by decide +kernel
theorem dX1_load_91 : decode cX1_load 91 = .ok (.getfield 15, 3) := by decide +kernel
theorem dX1_load_94 : decode cX1_load 94 = .ok (.iload_n 2, 1) := by decide +kernel
theorem dX1_load_95 : decode cX1_load 95 = .ok (.iconst 1, 1) := by decide +kernel
theorem dX1_load_96 : decode cX1_load 96 = .ok (.iadd, 1) := by decide +kernel
theorem dX1_load_97 : decode cX1_load 97 = .ok (.aload_n 0, 1) := by decide +kernel
theorem dX1_load_98 : decode cX1_load 98 = .ok (.getfield 22, 3) := by decide +kernel
theorem dX1_load_101 : decode cX1_load 101 = .ok (.iastore, 1) := by decide +kernel
theorem dX1_load_102 : decode cX1_load 102 = .ok (.iinc 2 1, 3) := by decide +kernel
theorem dX1_load_105 : decode cX1_load 105 = .ok (.goto (-58), 3) := by decide +kernel
theorem dX1_load_108 : decode cX1_load 108 = .ok (.return_, 1) := by decide +kernel
theorem dX1_faultOf_0 : decode cX1_faultOf 0 = .ok (.iconst 0, 1) := by decide +kernel
theorem dX1_faultOf_1 : decode cX1_faultOf 1 = .ok (.istore_n 1, 1) := by decide +kernel
theorem dX1_faultOf_2 : decode cX1_faultOf 2 = .ok (.iload_n 1, 1) := by decide +kernel
theorem dX1_faultOf_3 : decode cX1_faultOf 3 = .ok (.aload_n 0, 1) := by decide +kernel
theorem dX1_faultOf_4 : decode cX1_faultOf 4 = .ok (.invokevirtual 32, 3) := by decide +kernel
theorem dX1_faultOf_7 : decode cX1_faultOf 7 = .ok (.if_icmp .ge 31, 3) := by decide +kernel
theorem dX1_faultOf_10 : decode cX1_faultOf 10 = .ok (.aload_n 0, 1) := by decide +kernel
theorem dX1_faultOf_11 : decode cX1_faultOf 11 = .ok (.iload_n 1, 1) := by decide +kernel
theorem dX1_faultOf_12 : decode cX1_faultOf 12 = .ok (.invokevirtual 43, 3) := by decide +kernel
theorem dX1_faultOf_15 : decode cX1_faultOf 15 = .ok (.bipush 49, 2) := by decide +kernel
theorem dX1_faultOf_17 : decode cX1_faultOf 17 = .ok (.if_icmp .lt 13, 3) := by decide +kernel
theorem dX1_faultOf_20 : decode cX1_faultOf 20 = .ok (.aload_n 0, 1) := by decide +kernel
theorem dX1_faultOf_21 : decode cX1_faultOf 21 = .ok (.iload_n 1, 1) := by decide +kernel
theorem dX1_faultOf_22 : decode cX1_faultOf 22 = .ok (.invokevirtual 43, 3) := by decide +kernel
theorem dX1_faultOf_25 : decode cX1_faultOf 25 = .ok (.bipush 57, 2) := by decide +kernel
theorem dX1_faultOf_27 : decode cX1_faultOf 27 = .ok (.if_icmp .le 5, 3) := by decide +kernel
theorem dX1_faultOf_30 : decode cX1_faultOf 30 = .ok (.iload_n 1, 1) := by decide +kernel
theorem dX1_faultOf_31 : decode cX1_faultOf 31 = .ok (.ireturn, 1) := by decide +kernel
theorem dX1_faultOf_32 : decode cX1_faultOf 32 = .ok (.iinc 1 1, 3) := by decide +kernel
theorem dX1_faultOf_35 : decode cX1_faultOf 35 = .ok (.goto (-33), 3) := by decide +kernel
theorem dX1_faultOf_38 : decode cX1_faultOf 38 = .ok (.iconst (-1), 1) := by decide +kernel
theorem dX1_faultOf_39 : decode cX1_faultOf 39 = .ok (.ireturn, 1) := by decide +kernel
theorem dX1_firstFault_0 : decode cX1_firstFault 0 = .ok (.aload_n 0, 1) := by decide +kernel
theorem dX1_firstFault_1 : decode cX1_firstFault 1 = .ok (.getfield 25, 3) := by decide +kernel
theorem dX1_firstFault_4 : decode cX1_firstFault 4 = .ok (.ireturn, 1) := by decide +kernel
theorem dX1_size_0 : decode cX1_size 0 = .ok (.aload_n 0, 1) := by decide +kernel
theorem dX1_size_1 : decode cX1_size 1 = .ok (.getfield 18, 3) := by decide +kernel
theorem dX1_size_4 : decode cX1_size 4 = .ok (.ireturn, 1) := by decide +kernel
theorem dX1_whole_0 : decode cX1_whole 0 = .ok (.aload_n 0, 1) := by decide +kernel
theorem dX1_whole_1 : decode cX1_whole 1 = .ok (.getfield 22, 3) := by decide +kernel
theorem dX1_whole_4 : decode cX1_whole 4 = .ok (.ireturn, 1) := by decide +kernel
theorem dX1_weightOf_0 : decode cX1_weightOf 0 = .ok (.iload_n 1, 1) := by decide +kernel
theorem dX1_weightOf_1 : decode cX1_weightOf 1 = .ok (.ifCond .lt 29, 3) := by decide +kernel
theorem dX1_weightOf_4 : decode cX1_weightOf 4 = .ok (.iload_n 1, 1) := by decide +kernel
theorem dX1_weightOf_5 : decode cX1_weightOf 5 = .ok (.aload_n 0, 1) := by decide +kernel
theorem dX1_weightOf_6 : decode cX1_weightOf 6 = .ok (.getfield 18, 3) := by decide +kernel
theorem dX1_weightOf_9 : decode cX1_weightOf 9 = .ok (.if_icmp .ge 21, 3) := by decide +kernel
theorem dX1_weightOf_12 : decode cX1_weightOf 12 = .ok (.iload_n 1, 1) := by decide +kernel
theorem dX1_weightOf_13 : decode cX1_weightOf 13 = .ok (.aload_n 0, 1) := by decide +kernel
theorem dX1_weightOf_14 : decode cX1_weightOf 14 = .ok (.getfield 9, 3) := by decide +kernel
theorem dX1_weightOf_17 : decode cX1_weightOf 17 = .ok (.arraylength, 1) := by decide +kernel
theorem dX1_weightOf_18 : decode cX1_weightOf 18 = .ok (.if_icmp .ge 12, 3) := by decide +kernel
theorem dX1_weightOf_21 : decode cX1_weightOf 21 = .ok (.aload_n 0, 1) := by decide +kernel
theorem dX1_weightOf_22 : decode cX1_weightOf 22 = .ok (.getfield 9, 3) := by decide +kernel
theorem dX1_weightOf_25 : decode cX1_weightOf 25 = .ok (.iload_n 1, 1) := by decide +kernel
theorem dX1_weightOf_26 : decode cX1_weightOf 26 = .ok (.iaload, 1) := by decide +kernel
theorem dX1_weightOf_27 : decode cX1_weightOf 27 = .ok (.goto 4, 3) := by decide +kernel
theorem dX1_weightOf_30 : decode cX1_weightOf 30 = .ok (.iconst 0, 1) := by decide +kernel
theorem dX1_weightOf_31 : decode cX1_weightOf 31 = .ok (.ireturn, 1) := by decide +kernel
theorem dX1_strainTimesWhole_0 : decode cX1_strainTimesWhole 0 = .ok (.iload_n 1, 1) := by decide +kernel
theorem dX1_strainTimesWhole_1 : decode cX1_strainTimesWhole 1 = .ok (.ifCond .lt 21, 3) := by decide +kernel
theorem dX1_strainTimesWhole_4 : decode cX1_strainTimesWhole 4 = .ok (.iload_n 1, 1) := by decide +kernel
theorem dX1_strainTimesWhole_5 : decode cX1_strainTimesWhole 5 = .ok (.aload_n 0, 1) := by decide +kernel
theorem dX1_strainTimesWhole_6 : decode cX1_strainTimesWhole 6 = .ok (.getfield 15, 3) := by decide +kernel
theorem dX1_strainTimesWhole_9 : decode cX1_strainTimesWhole 9 = .ok (.arraylength, 1) := by decide +kernel
theorem dX1_strainTimesWhole_10 : decode cX1_strainTimesWhole 10 = .ok (.if_icmp .ge 12, 3) := by decide +kernel
theorem dX1_strainTimesWhole_13 : decode cX1_strainTimesWhole 13 = .ok (.aload_n 0, 1) := by decide +kernel
theorem dX1_strainTimesWhole_14 : decode cX1_strainTimesWhole 14 = .ok (.getfield 15, 3) := by decide +kernel
theorem dX1_strainTimesWhole_17 : decode cX1_strainTimesWhole 17 = .ok (.iload_n 1, 1) := by decide +kernel
theorem dX1_strainTimesWhole_18 : decode cX1_strainTimesWhole 18 = .ok (.iaload, 1) := by decide +kernel
theorem dX1_strainTimesWhole_19 : decode cX1_strainTimesWhole 19 = .ok (.goto 4, 3) := by decide +kernel
theorem dX1_strainTimesWhole_22 : decode cX1_strainTimesWhole 22 = .ok (.iconst 0, 1) := by decide +kernel
theorem dX1_strainTimesWhole_23 : decode cX1_strainTimesWhole 23 = .ok (.istore 4, 2) := by decide +kernel
theorem dX1_strainTimesWhole_25 : decode cX1_strainTimesWhole 25 = .ok (.iload_n 2, 1) := by decide +kernel
theorem dX1_strainTimesWhole_26 : decode cX1_strainTimesWhole 26 = .ok (.aload_n 0, 1) := by decide +kernel
theorem dX1_strainTimesWhole_27 : decode cX1_strainTimesWhole 27 = .ok (.getfield 22, 3) := by decide +kernel
theorem dX1_strainTimesWhole_30 : decode cX1_strainTimesWhole 30 = .ok (.imul, 1) := by decide +kernel
theorem dX1_strainTimesWhole_31 : decode cX1_strainTimesWhole 31 = .ok (.iload_n 2, 1) := by decide +kernel
theorem dX1_strainTimesWhole_32 : decode cX1_strainTimesWhole 32 = .ok (.iload_n 3, 1) := by decide +kernel
theorem dX1_strainTimesWhole_33 : decode cX1_strainTimesWhole 33 = .ok (.iadd, 1) := by decide +kernel
theorem dX1_strainTimesWhole_34 : decode cX1_strainTimesWhole 34 = .ok (.iload 4, 2) := by decide +kernel
theorem dX1_strainTimesWhole_36 : decode cX1_strainTimesWhole 36 = .ok (.imul, 1) := by decide +kernel
theorem dX1_strainTimesWhole_37 : decode cX1_strainTimesWhole 37 = .ok (.isub, 1) := by decide +kernel
theorem dX1_strainTimesWhole_38 : decode cX1_strainTimesWhole 38 = .ok (.ireturn, 1) := by decide +kernel
theorem dX1_firstSlack_0 : decode cX1_firstSlack 0 = .ok (.iconst 0, 1) := by decide +kernel
theorem dX1_firstSlack_1 : decode cX1_firstSlack 1 = .ok (.istore_n 3, 1) := by decide +kernel
theorem dX1_firstSlack_2 : decode cX1_firstSlack 2 = .ok (.iload_n 3, 1) := by decide +kernel
theorem dX1_firstSlack_3 : decode cX1_firstSlack 3 = .ok (.aload_n 0, 1) := by decide +kernel
theorem dX1_firstSlack_4 : decode cX1_firstSlack 4 = .ok (.getfield 18, 3) := by decide +kernel
theorem dX1_firstSlack_7 : decode cX1_firstSlack 7 = .ok (.if_icmp .gt 21, 3) := by decide +kernel
theorem dX1_firstSlack_10 : decode cX1_firstSlack 10 = .ok (.aload_n 0, 1) := by decide +kernel
theorem dX1_firstSlack_11 : decode cX1_firstSlack 11 = .ok (.iload_n 3, 1) := by decide +kernel
theorem dX1_firstSlack_12 : decode cX1_firstSlack 12 = .ok (.iload_n 1, 1) := by decide +kernel
theorem dX1_firstSlack_13 : decode cX1_firstSlack 13 = .ok (.iload_n 2, 1) := by decide +kernel
theorem dX1_firstSlack_14 : decode cX1_firstSlack 14 = .ok (.invokevirtual 47, 3) := by decide +kernel
theorem dX1_firstSlack_17 : decode cX1_firstSlack 17 = .ok (.ifCond .gt 5, 3) := by decide +kernel
theorem dX1_firstSlack_20 : decode cX1_firstSlack 20 = .ok (.iload_n 3, 1) := by decide +kernel
theorem dX1_firstSlack_21 : decode cX1_firstSlack 21 = .ok (.ireturn, 1) := by decide +kernel
theorem dX1_firstSlack_22 : decode cX1_firstSlack 22 = .ok (.iinc 3 1, 3) := by decide +kernel
theorem dX1_firstSlack_25 : decode cX1_firstSlack 25 = .ok (.goto (-23), 3) := by decide +kernel
theorem dX1_firstSlack_28 : decode cX1_firstSlack 28 = .ok (.iconst (-1), 1) := by decide +kernel
theorem dX1_firstSlack_29 : decode cX1_firstSlack 29 = .ok (.ireturn, 1) := by decide +kernel
theorem dX1_tears_0 : decode cX1_tears 0 = .ok (.iconst 0, 1) := by decide +kernel
theorem dX1_tears_1 : decode cX1_tears 1 = .ok (.istore 4, 2) := by decide +kernel
theorem dX1_tears_3 : decode cX1_tears 3 = .ok (.iload 4, 2) := by decide +kernel
theorem dX1_tears_5 : decode cX1_tears 5 = .ok (.aload_n 0, 1) := by decide +kernel
theorem dX1_tears_6 : decode cX1_tears 6 = .ok (.getfield 18, 3) := by decide +kernel
theorem dX1_tears_9 : decode cX1_tears 9 = .ok (.if_icmp .gt 28, 3) := by decide +kernel
theorem dX1_tears_12 : decode cX1_tears 12 = .ok (.aload_n 0, 1) := by decide +kernel
theorem dX1_tears_13 : decode cX1_tears 13 = .ok (.iload 4, 2) := by decide +kernel
theorem dX1_tears_15 : decode cX1_tears 15 = .ok (.iload_n 1, 1) := by decide +kernel
theorem dX1_tears_16 : decode cX1_tears 16 = .ok (.iload_n 2, 1) := by decide +kernel
theorem dX1_tears_17 : decode cX1_tears 17 = .ok (.invokevirtual 47, 3) := by decide +kernel
theorem dX1_tears_20 : decode cX1_tears 20 = .ok (.iload_n 3, 1) := by decide +kernel
theorem dX1_tears_21 : decode cX1_tears 21 = .ok (.aload_n 0, 1) := by decide +kernel
theorem dX1_tears_22 : decode cX1_tears 22 = .ok (.getfield 22, 3) := by decide +kernel
theorem dX1_tears_25 : decode cX1_tears 25 = .ok (.imul, 1) := by decide +kernel
theorem dX1_tears_26 : decode cX1_tears 26 = .ok (.if_icmp .le 5, 3) := by decide +kernel
theorem dX1_tears_29 : decode cX1_tears 29 = .ok (.iconst 1, 1) := by decide +kernel
theorem dX1_tears_30 : decode cX1_tears 30 = .ok (.ireturn, 1) := by decide +kernel
theorem dX1_tears_31 : decode cX1_tears 31 = .ok (.iinc 4 1, 3) := by decide +kernel
theorem dX1_tears_34 : decode cX1_tears 34 = .ok (.goto (-31), 3) := by decide +kernel
theorem dX1_tears_37 : decode cX1_tears 37 = .ok (.iconst 0, 1) := by decide +kernel
theorem dX1_tears_38 : decode cX1_tears 38 = .ok (.ireturn, 1) := by decide +kernel
theorem dX1_firstSqueezed_0 : decode cX1_firstSqueezed 0 = .ok (.iconst 0, 1) := by decide +kernel
theorem dX1_firstSqueezed_1 : decode cX1_firstSqueezed 1 = .ok (.istore 4, 2) := by decide +kernel
theorem dX1_firstSqueezed_3 : decode cX1_firstSqueezed 3 = .ok (.iload 4, 2) := by decide +kernel
theorem dX1_firstSqueezed_5 : decode cX1_firstSqueezed 5 = .ok (.aload_n 0, 1) := by decide +kernel
theorem dX1_firstSqueezed_6 : decode cX1_firstSqueezed 6 = .ok (.getfield 18, 3) := by decide +kernel
theorem dX1_firstSqueezed_9 : decode cX1_firstSqueezed 9 = .ok (.if_icmp .ge 81, 3) := by decide +kernel
theorem dX1_firstSqueezed_12 : decode cX1_firstSqueezed 12 = .ok (.iload_n 3, 1) := by decide +kernel
theorem dX1_firstSqueezed_13 : decode cX1_firstSqueezed 13 = .ok (.aload_n 0, 1) := by decide +kernel
theorem dX1_firstSqueezed_14 : decode cX1_firstSqueezed 14 = .ok (.iload 4, 2) := by decide +kernel
theorem dX1_firstSqueezed_16 : decode cX1_firstSqueezed 16 = .ok (.invokevirtual 51, 3) := by decide +kernel
theorem dX1_firstSqueezed_19 : decode cX1_firstSqueezed 19 = .ok (.imul, 1) := by decide +kernel
theorem dX1_firstSqueezed_20 : decode cX1_firstSqueezed 20 = .ok (.aload_n 0, 1) := by decide +kernel
theorem dX1_firstSqueezed_21 : decode cX1_firstSqueezed 21 = .ok (.getfield 22, 3) := by decide +kernel
theorem dX1_firstSqueezed_24 : decode cX1_firstSqueezed 24 = .ok (.imul, 1) := by decide +kernel
theorem dX1_firstSqueezed_25 : decode cX1_firstSqueezed 25 = .ok (.istore 5, 2) := by decide +kernel
theorem dX1_firstSqueezed_27 : decode cX1_firstSqueezed 27 = .ok (.aload_n 0, 1) := by decide +kernel
theorem dX1_firstSqueezed_28 : decode cX1_firstSqueezed 28 = .ok (.iload 4, 2) := by decide +kernel
theorem dX1_firstSqueezed_30 : decode cX1_firstSqueezed 30 = .ok (.iload_n 1, 1) := by decide +kernel
theorem dX1_firstSqueezed_31 : decode cX1_firstSqueezed 31 = .ok (.iload_n 2, 1) := by decide +kernel
theorem dX1_firstSqueezed_32 : decode cX1_firstSqueezed 32 = .ok (.invokevirtual 47, 3) := by decide +kernel
theorem dX1_firstSqueezed_35 : decode cX1_firstSqueezed 35 = .ok (.ineg, 1) := by decide +kernel
theorem dX1_firstSqueezed_36 : decode cX1_firstSqueezed 36 = .ok (.iload 5, 2) := by decide +kernel
theorem dX1_firstSqueezed_38 : decode cX1_firstSqueezed 38 = .ok (.if_icmp .le 7, 3) := by decide +kernel
theorem dX1_firstSqueezed_41 : decode cX1_firstSqueezed 41 = .ok (.iconst 1, 1) := by decide +kernel
theorem dX1_firstSqueezed_42 : decode cX1_firstSqueezed 42 = .ok (.goto 4, 3) := by decide +kernel
theorem dX1_firstSqueezed_45 : decode cX1_firstSqueezed 45 = .ok (.iconst 0, 1) := by decide +kernel
theorem dX1_firstSqueezed_46 : decode cX1_firstSqueezed 46 = .ok (.istore 6, 2) := by decide +kernel
theorem dX1_firstSqueezed_48 : decode cX1_firstSqueezed 48 = .ok (.aload_n 0, 1) := by decide +kernel
theorem dX1_firstSqueezed_49 : decode cX1_firstSqueezed 49 = .ok (.iload 4, 2) := by decide +kernel
theorem dX1_firstSqueezed_51 : decode cX1_firstSqueezed 51 = .ok (.iconst 1, 1) := by decide +kernel
theorem dX1_firstSqueezed_52 : decode cX1_firstSqueezed 52 = .ok (.iadd, 1) := by decide +kernel
theorem dX1_firstSqueezed_53 : decode cX1_firstSqueezed 53 = .ok (.iload_n 1, 1) := by decide +kernel
theorem dX1_firstSqueezed_54 : decode cX1_firstSqueezed 54 = .ok (.iload_n 2, 1) := by decide +kernel
theorem dX1_firstSqueezed_55 : decode cX1_firstSqueezed 55 = .ok (.invokevirtual 47, 3) := by decide +kernel
theorem dX1_firstSqueezed_58 : decode cX1_firstSqueezed 58 = .ok (.ineg, 1) := by decide +kernel
theorem dX1_firstSqueezed_59 : decode cX1_firstSqueezed 59 = .ok (.iload 5, 2) := by decide +kernel
theorem dX1_firstSqueezed_61 : decode cX1_firstSqueezed 61 = .ok (.if_icmp .le 7, 3) := by decide +kernel
theorem dX1_firstSqueezed_64 : decode cX1_firstSqueezed 64 = .ok (.iconst 1, 1) := by decide +kernel
theorem dX1_firstSqueezed_65 : decode cX1_firstSqueezed 65 = .ok (.goto 4, 3) := by decide +kernel
theorem dX1_firstSqueezed_68 : decode cX1_firstSqueezed 68 = .ok (.iconst 0, 1) := by decide +kernel
theorem dX1_firstSqueezed_69 : decode cX1_firstSqueezed 69 = .ok (.istore 7, 2) := by decide +kernel
theorem dX1_firstSqueezed_71 : decode cX1_firstSqueezed 71 = .ok (.iload 6, 2) := by decide +kernel
theorem dX1_firstSqueezed_73 : decode cX1_firstSqueezed 73 = .ok (.ifCond .eq 11, 3) := by decide +kernel
theorem dX1_firstSqueezed_76 : decode cX1_firstSqueezed 76 = .ok (.iload 7, 2) := by decide +kernel
theorem dX1_firstSqueezed_78 : decode cX1_firstSqueezed 78 = .ok (.ifCond .eq 6, 3) := by decide +kernel
theorem dX1_firstSqueezed_81 : decode cX1_firstSqueezed 81 = .ok (.iload 4, 2) := by decide +kernel
theorem dX1_firstSqueezed_83 : decode cX1_firstSqueezed 83 = .ok (.ireturn, 1) := by decide +kernel
theorem dX1_firstSqueezed_84 : decode cX1_firstSqueezed 84 = .ok (.iinc 4 1, 3) := by decide +kernel
theorem dX1_firstSqueezed_87 : decode cX1_firstSqueezed 87 = .ok (.goto (-84), 3) := by decide +kernel
theorem dX1_firstSqueezed_90 : decode cX1_firstSqueezed 90 = .ok (.iconst (-1), 1) := by decide +kernel
theorem dX1_firstSqueezed_91 : decode cX1_firstSqueezed 91 = .ok (.ireturn, 1) := by decide +kernel
theorem dX2_init_0 : decode cX2_init 0 = .ok (.aload_n 0, 1) := by decide +kernel
theorem dX2_init_1 : decode cX2_init 1 = .ok (.invokespecial 3, 3) := by decide +kernel
theorem dX2_init_4 : decode cX2_init 4 = .ok (.aload_n 0, 1) := by decide +kernel
theorem dX2_init_5 : decode cX2_init 5 = .ok (.bipush 12, 2) := by decide +kernel
theorem dX2_init_7 : decode cX2_init 7 = .ok (.newarray .int, 2) := by decide +kernel
theorem dX2_init_9 : decode cX2_init 9 = .ok (.putfield 9, 3) := by decide +kernel
theorem dX2_init_12 : decode cX2_init 12 = .ok (.aload_n 0, 1) := by decide +kernel
theorem dX2_init_13 : decode cX2_init 13 = .ok (.bipush 12, 2) := by decide +kernel
theorem dX2_init_15 : decode cX2_init 15 = .ok (.newarray .int, 2) := by decide +kernel
theorem dX2_init_17 : decode cX2_init 17 = .ok (.putfield 15, 3) := by decide +kernel
theorem dX2_init_20 : decode cX2_init 20 = .ok (.aload_n 0, 1) := by decide +kernel
theorem dX2_init_21 : decode cX2_init 21 = .ok (.bipush 6, 2) := by decide +kernel
theorem dX2_init_23 : decode cX2_init 23 = .ok (.newarray .int, 2) := by decide +kernel
theorem dX2_init_25 : decode cX2_init 25 = .ok (.putfield 18, 3) := by decide +kernel
theorem dX2_init_28 : decode cX2_init 28 = .ok (.aload_n 0, 1) := by decide +kernel
theorem dX2_init_29 : decode cX2_init 29 = .ok (.iconst 0, 1) := by decide +kernel
theorem dX2_init_30 : decode cX2_init 30 = .ok (.putfield 21, 3) := by decide +kernel
theorem dX2_init_33 : decode cX2_init 33 = .ok (.aload_n 0, 1) := by decide +kernel
theorem dX2_init_34 : decode cX2_init 34 = .ok (.iconst 0, 1) := by decide +kernel
theorem dX2_init_35 : decode cX2_init 35 = .ok (.putfield 25, 3) := by decide +kernel
theorem dX2_init_38 : decode cX2_init 38 = .ok (.aload_n 0, 1) := by decide +kernel
theorem dX2_init_39 : decode cX2_init 39 = .ok (.iconst 0, 1) := by decide +kernel
theorem dX2_init_40 : decode cX2_init 40 = .ok (.putfield 28, 3) := by decide +kernel
theorem dX2_init_43 : decode cX2_init 43 = .ok (.return_, 1) := by decide +kernel
theorem dX2_size_0 : decode cX2_size 0 = .ok (.aload_n 0, 1) := by decide +kernel
theorem dX2_size_1 : decode cX2_size 1 = .ok (.getfield 21, 3) := by decide +kernel
theorem dX2_size_4 : decode cX2_size 4 = .ok (.ireturn, 1) := by decide +kernel
theorem dX2_isFull_0 : decode cX2_isFull 0 = .ok (.aload_n 0, 1) := by decide +kernel
theorem dX2_isFull_1 : decode cX2_isFull 1 = .ok (.getfield 21, 3) := by decide +kernel
theorem dX2_isFull_4 : decode cX2_isFull 4 = .ok (.bipush 12, 2) := by decide +kernel
theorem dX2_isFull_6 : decode cX2_isFull 6 = .ok (.if_icmp .lt 7, 3) := by decide +kernel
theorem dX2_isFull_9 : decode cX2_isFull 9 = .ok (.iconst 1, 1) := by decide +kernel
theorem dX2_isFull_10 : decode cX2_isFull 10 = .ok (.goto 4, 3) := by decide +kernel
theorem dX2_isFull_13 : decode cX2_isFull 13 = .ok (.iconst 0, 1) := by decide +kernel
theorem dX2_isFull_14 : decode cX2_isFull 14 = .ok (.ireturn, 1) := by decide +kernel
theorem dX2_tell_0 : decode cX2_tell 0 = .ok (.aload_n 0, 1) := by decide +kernel
theorem dX2_tell_1 : decode cX2_tell 1 = .ok (.getfield 21, 3) := by decide +kernel
theorem dX2_tell_4 : decode cX2_tell 4 = .ok (.ifCond .lt 32, 3) := by decide +kernel
theorem dX2_tell_7 : decode cX2_tell 7 = .ok (.aload_n 0, 1) := by decide +kernel
theorem dX2_tell_8 : decode cX2_tell 8 = .ok (.getfield 21, 3) := by decide +kernel
theorem dX2_tell_11 : decode cX2_tell 11 = .ok (.bipush 12, 2) := by decide +kernel
theorem dX2_tell_13 : decode cX2_tell 13 = .ok (.if_icmp .ge 23, 3) := by decide +kernel
theorem dX2_tell_16 : decode cX2_tell 16 = .ok (.aload_n 0, 1) := by decide +kernel
theorem dX2_tell_17 : decode cX2_tell 17 = .ok (.getfield 9, 3) := by decide +kernel
theorem dX2_tell_20 : decode cX2_tell 20 = .ok (.aload_n 0, 1) := by decide +kernel
theorem dX2_tell_21 : decode cX2_tell 21 = .ok (.getfield 21, 3) := by decide +kernel
theorem dX2_tell_24 : decode cX2_tell 24 = .ok (.iload_n 1, 1) := by decide +kernel
theorem dX2_tell_25 : decode cX2_tell 25 = .ok (.iastore, 1) := by decide +kernel
theorem dX2_tell_26 : decode cX2_tell 26 = .ok (.aload_n 0, 1) := by decide +kernel
theorem dX2_tell_27 : decode cX2_tell 27 = .ok (.dup, 1) := by decide +kernel
theorem dX2_tell_28 : decode cX2_tell 28 = .ok (.getfield 21, 3) := by decide +kernel
theorem dX2_tell_31 : decode cX2_tell 31 = .ok (.iconst 1, 1) := by decide +kernel
theorem dX2_tell_32 : decode cX2_tell 32 = .ok (.iadd, 1) := by decide +kernel
theorem dX2_tell_33 : decode cX2_tell 33 = .ok (.putfield 21, 3) := by decide +kernel
theorem dX2_tell_36 : decode cX2_tell 36 = .ok (.return_, 1) := by decide +kernel
theorem dX2_forgetLast_0 : decode cX2_forgetLast 0 = .ok (.aload_n 0, 1) := by decide +kernel
theorem dX2_forgetLast_1 : decode cX2_forgetLast 1 = .ok (.iconst 0, 1) := by decide +kernel
theorem dX2_forgetLast_2 : decode cX2_forgetLast 2 = .ok (.aload_n 0, 1) := by decide +kernel
theorem dX2_forgetLast_3 : decode cX2_forgetLast 3 = .ok (.getfield 21, 3) := by decide +kernel
theorem dX2_forgetLast_6 : decode cX2_forgetLast 6 = .ok (.iconst 1, 1) := by decide +kernel
theorem dX2_forgetLast_7 : decode cX2_forgetLast 7 = .ok (.isub, 1) := by decide +kernel
theorem dX2_forgetLast_8 : decode cX2_forgetLast 8 = .ok (.invokestatic 31, 3) := by decide +kernel
theorem dX2_forgetLast_11 : decode cX2_forgetLast 11 = .ok (.putfield 21, 3) := by decide +kernel
theorem dX2_forgetLast_14 : decode cX2_forgetLast 14 = .ok (.return_, 1) := by decide +kernel
theorem dX2_pushAll_0 : decode cX2_pushAll 0 = .ok (.aload_n 0, 1) := by decide +kernel
theorem dX2_pushAll_1 : decode cX2_pushAll 1 = .ok (.iconst 0, 1) := by decide +kernel
theorem dX2_pushAll_2 : decode cX2_pushAll 2 = .ok (.putfield 25, 3) := by decide +kernel
theorem dX2_pushAll_5 : decode cX2_pushAll 5 = .ok (.aload_n 0, 1) := by decide +kernel
theorem dX2_pushAll_6 : decode cX2_pushAll 6 = .ok (.iconst 0, 1) := by decide +kernel
theorem dX2_pushAll_7 : decode cX2_pushAll 7 = .ok (.putfield 28, 3) := by decide +kernel
theorem dX2_pushAll_10 : decode cX2_pushAll 10 = .ok (.aload_n 0, 1) := by decide +kernel
theorem dX2_pushAll_11 : decode cX2_pushAll 11 = .ok (.invokevirtual 37, 3) := by decide +kernel
theorem dX2_pushAll_14 : decode cX2_pushAll 14 = .ok (.iconst 0, 1) := by decide +kernel
theorem dX2_pushAll_15 : decode cX2_pushAll 15 = .ok (.istore_n 3, 1) := by decide +kernel
theorem dX2_pushAll_16 : decode cX2_pushAll 16 = .ok (.iload_n 3, 1) := by decide +kernel
theorem dX2_pushAll_17 : decode cX2_pushAll 17 = .ok (.bipush 6, 2) := by decide +kernel
theorem dX2_pushAll_19 : decode cX2_pushAll 19 = .ok (.if_icmp .ge 16, 3) := by decide +kernel
theorem dX2_pushAll_22 : decode cX2_pushAll 22 = .ok (.aload_n 0, 1) := by decide +kernel
theorem dX2_pushAll_23 : decode cX2_pushAll 23 = .ok (.getfield 18, 3) := by decide +kernel
theorem dX2_pushAll_26 : decode cX2_pushAll 26 = .ok (.iload_n 3, 1) := by decide +kernel
theorem dX2_pushAll_27 : decode cX2_pushAll 27 = .ok (.iconst 0, 1) := by decide +kernel
theorem dX2_pushAll_28 : decode cX2_pushAll 28 = .ok (.iastore, 1) := by decide +kernel
theorem dX2_pushAll_29 : decode cX2_pushAll 29 = .ok (.iinc 3 1, 3) := by decide +kernel
theorem dX2_pushAll_32 : decode cX2_pushAll 32 = .ok (.goto (-16), 3) := by decide +kernel
theorem dX2_pushAll_35 : decode cX2_pushAll 35 = .ok (.iconst 0, 1) := by decide +kernel
theorem dX2_pushAll_36 : decode cX2_pushAll 36 = .ok (.istore_n 3, 1) := by decide +kernel
theorem dX2_pushAll_37 : decode cX2_pushAll 37 = .ok (.iload_n 3, 1) := by decide +kernel
theorem dX2_pushAll_38 : decode cX2_pushAll 38 = .ok (.aload_n 0, 1) := by decide +kernel
theorem dX2_pushAll_39 : decode cX2_pushAll 39 = .ok (.getfield 21, 3) := by decide +kernel
theorem dX2_pushAll_42 : decode cX2_pushAll 42 = .ok (.if_icmp .ge 89, 3) := by decide +kernel
theorem dX2_pushAll_45 : decode cX2_pushAll 45 = .ok (.iload_n 3, 1) := by decide +kernel
theorem dX2_pushAll_46 : decode cX2_pushAll 46 = .ok (.bipush 12, 2) := by decide +kernel
theorem dX2_pushAll_48 : decode cX2_pushAll 48 = .ok (.if_icmp .ge 83, 3) := by decide +kernel
theorem dX2_pushAll_51 : decode cX2_pushAll 51 = .ok (.aload_n 0, 1) := by decide +kernel
theorem dX2_pushAll_52 : decode cX2_pushAll 52 = .ok (.iload_n 1, 1) := by decide +kernel
theorem dX2_pushAll_53 : decode cX2_pushAll 53 = .ok (.invokevirtual 40, 3) := by decide +kernel
theorem dX2_pushAll_56 : decode cX2_pushAll 56 = .ok (.istore 4, 2) := by decide +kernel
theorem dX2_pushAll_58 : decode cX2_pushAll 58 = .ok (.aload_n 0, 1) := by decide +kernel
theorem dX2_pushAll_59 : decode cX2_pushAll 59 = .ok (.getfield 15, 3) := by decide +kernel
theorem dX2_pushAll_62 : decode cX2_pushAll 62 = .ok (.iload_n 3, 1) := by decide +kernel
theorem dX2_pushAll_63 : decode cX2_pushAll 63 = .ok (.iaload, 1) := by decide +kernel
theorem dX2_pushAll_64 : decode cX2_pushAll 64 = .ok (.aload_n 0, 1) := by decide +kernel
theorem dX2_pushAll_65 : decode cX2_pushAll 65 = .ok (.getfield 18, 3) := by decide +kernel
theorem dX2_pushAll_68 : decode cX2_pushAll 68 = .ok (.iload 4, 2) := by decide +kernel
theorem dX2_pushAll_70 : decode cX2_pushAll 70 = .ok (.iaload, 1) := by decide +kernel
theorem dX2_pushAll_71 : decode cX2_pushAll 71 = .ok (.invokestatic 31, 3) := by decide +kernel
theorem dX2_pushAll_74 : decode cX2_pushAll 74 = .ok (.istore 5, 2) := by decide +kernel
theorem dX2_pushAll_76 : decode cX2_pushAll 76 = .ok (.aload_n 0, 1) := by decide +kernel
theorem dX2_pushAll_77 : decode cX2_pushAll 77 = .ok (.getfield 18, 3) := by decide +kernel
theorem dX2_pushAll_80 : decode cX2_pushAll 80 = .ok (.iload 4, 2) := by decide +kernel
theorem dX2_pushAll_82 : decode cX2_pushAll 82 = .ok (.iload 5, 2) := by decide +kernel
theorem dX2_pushAll_84 : decode cX2_pushAll 84 = .ok (.iload_n 2, 1) := by decide +kernel
theorem dX2_pushAll_85 : decode cX2_pushAll 85 = .ok (.iadd, 1) := by decide +kernel
theorem dX2_pushAll_86 : decode cX2_pushAll 86 = .ok (.iastore, 1) := by decide +kernel
theorem dX2_pushAll_87 : decode cX2_pushAll 87 = .ok (.aload_n 0, 1) := by decide +kernel
theorem dX2_pushAll_88 : decode cX2_pushAll 88 = .ok (.dup, 1) := by decide +kernel
theorem dX2_pushAll_89 : decode cX2_pushAll 89 = .ok (.getfield 25, 3) := by decide +kernel
theorem dX2_pushAll_92 : decode cX2_pushAll 92 = .ok (.iload 5, 2) := by decide +kernel
theorem dX2_pushAll_94 : decode cX2_pushAll 94 = .ok (.aload_n 0, 1) := by decide +kernel
theorem dX2_pushAll_95 : decode cX2_pushAll 95 = .ok (.getfield 15, 3) := by decide +kernel
theorem dX2_pushAll_98 : decode cX2_pushAll 98 = .ok (.iload_n 3, 1) := by decide +kernel
theorem dX2_pushAll_99 : decode cX2_pushAll 99 = .ok (.iaload, 1) := by decide +kernel
theorem dX2_pushAll_100 : decode cX2_pushAll 100 = .ok (.isub, 1) := by decide +kernel
theorem dX2_pushAll_101 : decode cX2_pushAll 101 = .ok (.iadd, 1) := by decide +kernel
theorem dX2_pushAll_102 : decode cX2_pushAll 102 = .ok (.putfield 25, 3) := by decide +kernel
theorem dX2_pushAll_105 : decode cX2_pushAll 105 = .ok (.aload_n 0, 1) := by decide +kernel
theorem dX2_pushAll_106 : decode cX2_pushAll 106 = .ok (.aload_n 0, 1) := by decide +kernel
theorem dX2_pushAll_107 : decode cX2_pushAll 107 = .ok (.getfield 28, 3) := by decide +kernel
theorem dX2_pushAll_110 : decode cX2_pushAll 110 = .ok (.iload 5, 2) := by decide +kernel
theorem dX2_pushAll_112 : decode cX2_pushAll 112 = .ok (.aload_n 0, 1) := by decide +kernel
theorem dX2_pushAll_113 : decode cX2_pushAll 113 = .ok (.getfield 15, 3) := by decide +kernel
theorem dX2_pushAll_116 : decode cX2_pushAll 116 = .ok (.iload_n 3, 1) := by decide +kernel
theorem dX2_pushAll_117 : decode cX2_pushAll 117 = .ok (.iaload, 1) := by decide +kernel
theorem dX2_pushAll_118 : decode cX2_pushAll 118 = .ok (.isub, 1) := by decide +kernel
theorem dX2_pushAll_119 : decode cX2_pushAll 119 = .ok (.invokestatic 31, 3) := by decide +kernel
theorem dX2_pushAll_122 : decode cX2_pushAll 122 = .ok (.putfield 28, 3) := by decide +kernel
theorem dX2_pushAll_125 : decode cX2_pushAll 125 = .ok (.iinc 3 1, 3) := by decide +kernel
theorem dX2_pushAll_128 : decode cX2_pushAll 128 = .ok (.goto (-91), 3) := by decide +kernel
theorem dX2_pushAll_131 : decode cX2_pushAll 131 = .ok (.return_, 1) := by decide +kernel
theorem dX2_firstFree_0 : decode cX2_firstFree 0 = .ok (.iconst 0, 1) := by decide +kernel
theorem dX2_firstFree_1 : decode cX2_firstFree 1 = .ok (.istore_n 2, 1) := by decide +kernel
theorem dX2_firstFree_2 : decode cX2_firstFree 2 = .ok (.iconst 1, 1) := by decide +kernel
theorem dX2_firstFree_3 : decode cX2_firstFree 3 = .ok (.istore_n 3, 1) := by decide +kernel
theorem dX2_firstFree_4 : decode cX2_firstFree 4 = .ok (.iload_n 3, 1) := by decide +kernel
theorem dX2_firstFree_5 : decode cX2_firstFree 5 = .ok (.iload_n 1, 1) := by decide +kernel
theorem dX2_firstFree_6 : decode cX2_firstFree 6 = .ok (.if_icmp .ge 32, 3) := by decide +kernel
theorem dX2_firstFree_9 : decode cX2_firstFree 9 = .ok (.iload_n 3, 1) := by decide +kernel
theorem dX2_firstFree_10 : decode cX2_firstFree 10 = .ok (.bipush 6, 2) := by decide +kernel
theorem dX2_firstFree_12 : decode cX2_firstFree 12 = .ok (.if_icmp .ge 26, 3) := by decide +kernel
theorem dX2_firstFree_15 : decode cX2_firstFree 15 = .ok (.aload_n 0, 1) := by decide +kernel
theorem dX2_firstFree_16 : decode cX2_firstFree 16 = .ok (.getfield 18, 3) := by decide +kernel
theorem dX2_firstFree_19 : decode cX2_firstFree 19 = .ok (.iload_n 3, 1) := by decide +kernel
theorem dX2_firstFree_20 : decode cX2_firstFree 20 = .ok (.iaload, 1) := by decide +kernel
theorem dX2_firstFree_21 : decode cX2_firstFree 21 = .ok (.aload_n 0, 1) := by decide +kernel
theorem dX2_firstFree_22 : decode cX2_firstFree 22 = .ok (.getfield 18, 3) := by decide +kernel
theorem dX2_firstFree_25 : decode cX2_firstFree 25 = .ok (.iload_n 2, 1) := by decide +kernel
theorem dX2_firstFree_26 : decode cX2_firstFree 26 = .ok (.iaload, 1) := by decide +kernel
theorem dX2_firstFree_27 : decode cX2_firstFree 27 = .ok (.if_icmp .ge 5, 3) := by decide +kernel
theorem dX2_firstFree_30 : decode cX2_firstFree 30 = .ok (.iload_n 3, 1) := by decide +kernel
theorem dX2_firstFree_31 : decode cX2_firstFree 31 = .ok (.istore_n 2, 1) := by decide +kernel
theorem dX2_firstFree_32 : decode cX2_firstFree 32 = .ok (.iinc 3 1, 3) := by decide +kernel
theorem dX2_firstFree_35 : decode cX2_firstFree 35 = .ok (.goto (-31), 3) := by decide +kernel
theorem dX2_firstFree_38 : decode cX2_firstFree 38 = .ok (.iload_n 2, 1) := by decide +kernel
theorem dX2_firstFree_39 : decode cX2_firstFree 39 = .ok (.ireturn, 1) := by decide +kernel
theorem dX2_sort_0 : decode cX2_sort 0 = .ok (.iconst 0, 1) := by decide +kernel
theorem dX2_sort_1 : decode cX2_sort 1 = .ok (.istore_n 1, 1) := by decide +kernel
theorem dX2_sort_2 : decode cX2_sort 2 = .ok (.iload_n 1, 1) := by decide +kernel
theorem dX2_sort_3 : decode cX2_sort 3 = .ok (.aload_n 0, 1) := by decide +kernel
theorem dX2_sort_4 : decode cX2_sort 4 = .ok (.getfield 21, 3) := by decide +kernel
theorem dX2_sort_7 : decode cX2_sort 7 = .ok (.if_icmp .ge 70, 3) := by decide +kernel
theorem dX2_sort_10 : decode cX2_sort 10 = .ok (.iload_n 1, 1) := by decide +kernel
theorem dX2_sort_11 : decode cX2_sort 11 = .ok (.bipush 12, 2) := by decide +kernel
theorem dX2_sort_13 : decode cX2_sort 13 = .ok (.if_icmp .ge 64, 3) := by decide +kernel
theorem dX2_sort_16 : decode cX2_sort 16 = .ok (.iload_n 1, 1) := by decide +kernel
theorem dX2_sort_17 : decode cX2_sort 17 = .ok (.istore_n 2, 1) := by decide +kernel
theorem dX2_sort_18 : decode cX2_sort 18 = .ok (.iload_n 2, 1) := by decide +kernel
theorem dX2_sort_19 : decode cX2_sort 19 = .ok (.ifCond .le 40, 3) := by decide +kernel
theorem dX2_sort_22 : decode cX2_sort 22 = .ok (.aload_n 0, 1) := by decide +kernel
theorem dX2_sort_23 : decode cX2_sort 23 = .ok (.getfield 15, 3) := by decide +kernel
theorem dX2_sort_26 : decode cX2_sort 26 = .ok (.iload_n 2, 1) := by decide +kernel
theorem dX2_sort_27 : decode cX2_sort 27 = .ok (.iconst 1, 1) := by decide +kernel
theorem dX2_sort_28 : decode cX2_sort 28 = .ok (.isub, 1) := by decide +kernel
theorem dX2_sort_29 : decode cX2_sort 29 = .ok (.iaload, 1) := by decide +kernel
theorem dX2_sort_30 : decode cX2_sort 30 = .ok (.aload_n 0, 1) := by decide +kernel
theorem dX2_sort_31 : decode cX2_sort 31 = .ok (.getfield 9, 3) := by decide +kernel
theorem dX2_sort_34 : decode cX2_sort 34 = .ok (.iload_n 1, 1) := by decide +kernel
theorem dX2_sort_35 : decode cX2_sort 35 = .ok (.iaload, 1) := by decide +kernel
theorem dX2_sort_36 : decode cX2_sort 36 = .ok (.if_icmp .le 23, 3) := by decide +kernel
theorem dX2_sort_39 : decode cX2_sort 39 = .ok (.aload_n 0, 1) := by decide +kernel
theorem dX2_sort_40 : decode cX2_sort 40 = .ok (.getfield 15, 3) := by decide +kernel
theorem dX2_sort_43 : decode cX2_sort 43 = .ok (.iload_n 2, 1) := by decide +kernel
theorem dX2_sort_44 : decode cX2_sort 44 = .ok (.aload_n 0, 1) := by decide +kernel
theorem dX2_sort_45 : decode cX2_sort 45 = .ok (.getfield 15, 3) := by decide +kernel
theorem dX2_sort_48 : decode cX2_sort 48 = .ok (.iload_n 2, 1) := by decide +kernel
theorem dX2_sort_49 : decode cX2_sort 49 = .ok (.iconst 1, 1) := by decide +kernel
theorem dX2_sort_50 : decode cX2_sort 50 = .ok (.isub, 1) := by decide +kernel
theorem dX2_sort_51 : decode cX2_sort 51 = .ok (.iaload, 1) := by decide +kernel
theorem dX2_sort_52 : decode cX2_sort 52 = .ok (.iastore, 1) := by decide +kernel
theorem dX2_sort_53 : decode cX2_sort 53 = .ok (.iinc 2 (-1), 3) := by decide +kernel
theorem dX2_sort_56 : decode cX2_sort 56 = .ok (.goto (-38), 3) := by decide +kernel
theorem dX2_sort_59 : decode cX2_sort 59 = .ok (.aload_n 0, 1) := by decide +kernel
theorem dX2_sort_60 : decode cX2_sort 60 = .ok (.getfield 15, 3) := by decide +kernel
theorem dX2_sort_63 : decode cX2_sort 63 = .ok (.iload_n 2, 1) := by decide +kernel
theorem dX2_sort_64 : decode cX2_sort 64 = .ok (.aload_n 0, 1) := by decide +kernel
theorem dX2_sort_65 : decode cX2_sort 65 = .ok (.getfield 9, 3) := by decide +kernel
theorem dX2_sort_68 : decode cX2_sort 68 = .ok (.iload_n 1, 1) := by decide +kernel
theorem dX2_sort_69 : decode cX2_sort 69 = .ok (.iaload, 1) := by decide +kernel
theorem dX2_sort_70 : decode cX2_sort 70 = .ok (.iastore, 1) := by decide +kernel
theorem dX2_sort_71 : decode cX2_sort 71 = .ok (.iinc 1 1, 3) := by decide +kernel
theorem dX2_sort_74 : decode cX2_sort 74 = .ok (.goto (-72), 3) := by decide +kernel
theorem dX2_sort_77 : decode cX2_sort 77 = .ok (.return_, 1) := by decide +kernel
theorem dX2_waitedTogether_0 : decode cX2_waitedTogether 0 = .ok (.aload_n 0, 1) := by decide +kernel
theorem dX2_waitedTogether_1 : decode cX2_waitedTogether 1 = .ok (.getfield 25, 3) := by decide +kernel
theorem dX2_waitedTogether_4 : decode cX2_waitedTogether 4 = .ok (.ireturn, 1) := by decide +kernel
theorem dX2_waitedMost_0 : decode cX2_waitedMost 0 = .ok (.aload_n 0, 1) := by decide +kernel
theorem dX2_waitedMost_1 : decode cX2_waitedMost 1 = .ok (.getfield 28, 3) := by decide +kernel
theorem dX2_waitedMost_4 : decode cX2_waitedMost 4 = .ok (.ireturn, 1) := by decide +kernel
theorem dX3_init_0 : decode cX3_init 0 = .ok (.aload_n 0, 1) := by decide +kernel
theorem dX3_init_1 : decode cX3_init 1 = .ok (.invokespecial 1, 3) := by decide +kernel
theorem dX3_init_4 : decode cX3_init 4 = .ok (.aload_n 0, 1) := by decide +kernel
theorem dX3_init_5 : decode cX3_init 5 = .ok (.aload_n 1, 1) := by decide +kernel
theorem dX3_init_6 : decode cX3_init 6 = .ok (.putfield 7, 3) := by decide +kernel
theorem dX3_init_9 : decode cX3_init 9 = .ok (.aload_n 0, 1) := by decide +kernel
theorem dX3_init_10 : decode cX3_init 10 = .ok (.aload_n 2, 1) := by decide +kernel
theorem dX3_init_11 : decode cX3_init 11 = .ok (.putfield 13, 3) := by decide +kernel
theorem dX3_init_14 : decode cX3_init 14 = .ok (.aload_n 0, 1) := by decide +kernel
theorem dX3_init_15 : decode cX3_init 15 = .ok (.aload_n 3, 1) := by decide +kernel
theorem dX3_init_16 : decode cX3_init 16 = .ok (.invokevirtual 16, 3) := by decide +kernel
theorem dX3_init_19 : decode cX3_init 19 = .ok (.checkcast 17, 3) := by decide +kernel
theorem dX3_init_22 : decode cX3_init 22 = .ok (.putfield 21, 3) := by decide +kernel
theorem dX3_init_25 : decode cX3_init 25 = .ok (.return_, 1) := by decide +kernel
theorem dX3_takes_0 : decode cX3_takes 0 = .ok (.iload_n 1, 1) := by decide +kernel
theorem dX3_takes_1 : decode cX3_takes 1 = .ok (.ifCond .lt 34, 3) := by decide +kernel
theorem dX3_takes_4 : decode cX3_takes 4 = .ok (.iload_n 1, 1) := by decide +kernel
theorem dX3_takes_5 : decode cX3_takes 5 = .ok (.aload_n 0, 1) := by decide +kernel
theorem dX3_takes_6 : decode cX3_takes 6 = .ok (.getfield 7, 3) := by decide +kernel
theorem dX3_takes_9 : decode cX3_takes 9 = .ok (.arraylength, 1) := by decide +kernel
theorem dX3_takes_10 : decode cX3_takes 10 = .ok (.if_icmp .ge 25, 3) := by decide +kernel
theorem dX3_takes_13 : decode cX3_takes 13 = .ok (.iload_n 1, 1) := by decide +kernel
theorem dX3_takes_14 : decode cX3_takes 14 = .ok (.aload_n 0, 1) := by decide +kernel
theorem dX3_takes_15 : decode cX3_takes 15 = .ok (.getfield 13, 3) := by decide +kernel
theorem dX3_takes_18 : decode cX3_takes 18 = .ok (.arraylength, 1) := by decide +kernel
theorem dX3_takes_19 : decode cX3_takes 19 = .ok (.if_icmp .ge 16, 3) := by decide +kernel
theorem dX3_takes_22 : decode cX3_takes 22 = .ok (.iload_n 1, 1) := by decide +kernel
theorem dX3_takes_23 : decode cX3_takes 23 = .ok (.aload_n 0, 1) := by decide +kernel
theorem dX3_takes_24 : decode cX3_takes 24 = .ok (.getfield 21, 3) := by decide +kernel
theorem dX3_takes_27 : decode cX3_takes 27 = .ok (.arraylength, 1) := by decide +kernel
theorem dX3_takes_28 : decode cX3_takes 28 = .ok (.if_icmp .ge 7, 3) := by decide +kernel
theorem dX3_takes_31 : decode cX3_takes 31 = .ok (.iconst 1, 1) := by decide +kernel
theorem dX3_takes_32 : decode cX3_takes 32 = .ok (.goto 4, 3) := by decide +kernel
theorem dX3_takes_35 : decode cX3_takes 35 = .ok (.iconst 0, 1) := by decide +kernel
theorem dX3_takes_36 : decode cX3_takes 36 = .ok (.istore_n 3, 1) := by decide +kernel
theorem dX3_takes_37 : decode cX3_takes 37 = .ok (.iload_n 3, 1) := by decide +kernel
theorem dX3_takes_38 : decode cX3_takes 38 = .ok (.ifCond .eq 27, 3) := by decide +kernel
theorem dX3_takes_41 : decode cX3_takes 41 = .ok (.iload_n 2, 1) := by decide +kernel
theorem dX3_takes_42 : decode cX3_takes 42 = .ok (.aload_n 0, 1) := by decide +kernel
theorem dX3_takes_43 : decode cX3_takes 43 = .ok (.getfield 7, 3) := by decide +kernel
theorem dX3_takes_46 : decode cX3_takes 46 = .ok (.iload_n 1, 1) := by decide +kernel
theorem dX3_takes_47 : decode cX3_takes 47 = .ok (.iaload, 1) := by decide +kernel
theorem dX3_takes_48 : decode cX3_takes 48 = .ok (.if_icmp .lt 17, 3) := by decide +kernel
theorem dX3_takes_51 : decode cX3_takes 51 = .ok (.iload_n 2, 1) := by decide +kernel
theorem dX3_takes_52 : decode cX3_takes 52 = .ok (.aload_n 0, 1) := by decide +kernel
theorem dX3_takes_53 : decode cX3_takes 53 = .ok (.getfield 13, 3) := by decide +kernel
theorem dX3_takes_56 : decode cX3_takes 56 = .ok (.iload_n 1, 1) := by decide +kernel
theorem dX3_takes_57 : decode cX3_takes 57 = .ok (.iaload, 1) := by decide +kernel
theorem dX3_takes_58 : decode cX3_takes 58 = .ok (.if_icmp .gt 7, 3) := by decide +kernel
theorem dX3_takes_61 : decode cX3_takes 61 = .ok (.iconst 1, 1) := by decide +kernel
theorem dX3_takes_62 : decode cX3_takes 62 = .ok (.goto 4, 3) := by decide +kernel
theorem dX3_takes_65 : decode cX3_takes 65 = .ok (.iconst 0, 1) := by decide +kernel
theorem dX3_takes_66 : decode cX3_takes 66 = .ok (.ireturn, 1) := by decide +kernel
theorem dX3_at_0 : decode cX3_at 0 = .ok (.iload_n 1, 1) := by decide +kernel
theorem dX3_at_1 : decode cX3_at 1 = .ok (.ifCond .lt 21, 3) := by decide +kernel
theorem dX3_at_4 : decode cX3_at 4 = .ok (.iload_n 1, 1) := by decide +kernel
theorem dX3_at_5 : decode cX3_at 5 = .ok (.aload_n 0, 1) := by decide +kernel
theorem dX3_at_6 : decode cX3_at 6 = .ok (.getfield 21, 3) := by decide +kernel
theorem dX3_at_9 : decode cX3_at 9 = .ok (.arraylength, 1) := by decide +kernel
theorem dX3_at_10 : decode cX3_at 10 = .ok (.if_icmp .ge 12, 3) := by decide +kernel
theorem dX3_at_13 : decode cX3_at 13 = .ok (.aload_n 0, 1) := by decide +kernel
theorem dX3_at_14 : decode cX3_at 14 = .ok (.getfield 21, 3) := by decide +kernel
theorem dX3_at_17 : decode cX3_at 17 = .ok (.iload_n 1, 1) := by decide +kernel
theorem dX3_at_18 : decode cX3_at 18 = .ok (.iaload, 1) := by decide +kernel
theorem dX3_at_19 : decode cX3_at 19 = .ok (.goto 4, 3) := by decide +kernel
theorem dX3_at_22 : decode cX3_at 22 = .ok (.iconst 0, 1) := by decide +kernel
theorem dX3_at_23 : decode cX3_at 23 = .ok (.ireturn, 1) := by decide +kernel
theorem dX3_turn_0 : decode cX3_turn 0 = .ok (.aload_n 0, 1) := by decide +kernel
theorem dX3_turn_1 : decode cX3_turn 1 = .ok (.iload_n 1, 1) := by decide +kernel
theorem dX3_turn_2 : decode cX3_turn 2 = .ok (.invokevirtual 24, 3) := by decide +kernel
theorem dX3_turn_5 : decode cX3_turn 5 = .ok (.istore_n 3, 1) := by decide +kernel
theorem dX3_turn_6 : decode cX3_turn 6 = .ok (.aload_n 0, 1) := by decide +kernel
theorem dX3_turn_7 : decode cX3_turn 7 = .ok (.iload_n 1, 1) := by decide +kernel
theorem dX3_turn_8 : decode cX3_turn 8 = .ok (.iload_n 2, 1) := by decide +kernel
theorem dX3_turn_9 : decode cX3_turn 9 = .ok (.invokevirtual 28, 3) := by decide +kernel
theorem dX3_turn_12 : decode cX3_turn 12 = .ok (.ifCond .eq 10, 3) := by decide +kernel
theorem dX3_turn_15 : decode cX3_turn 15 = .ok (.aload_n 0, 1) := by decide +kernel
theorem dX3_turn_16 : decode cX3_turn 16 = .ok (.getfield 21, 3) := by decide +kernel
theorem dX3_turn_19 : decode cX3_turn 19 = .ok (.iload_n 1, 1) := by decide +kernel
theorem dX3_turn_20 : decode cX3_turn 20 = .ok (.iload_n 2, 1) := by decide +kernel
theorem dX3_turn_21 : decode cX3_turn 21 = .ok (.iastore, 1) := by decide +kernel
theorem dX3_turn_22 : decode cX3_turn 22 = .ok (.iload_n 3, 1) := by decide +kernel
theorem dX3_turn_23 : decode cX3_turn 23 = .ok (.ireturn, 1) := by decide +kernel
theorem dX4_init_0 : decode cX4_init 0 = .ok (.aload_n 0, 1) := by decide +kernel
theorem dX4_init_1 : decode cX4_init 1 = .ok (.invokespecial 3, 3) := by decide +kernel
theorem dX4_init_4 : decode cX4_init 4 = .ok (.aload_n 0, 1) := by decide +kernel
theorem dX4_init_5 : decode cX4_init 5 = .ok (.bipush 40, 2) := by decide +kernel
theorem dX4_init_7 : decode cX4_init 7 = .ok (.newarray .int, 2) := by decide +kernel
theorem dX4_init_9 : decode cX4_init 9 = .ok (.putfield 9, 3) := by decide +kernel
theorem dX4_init_12 : decode cX4_init 12 = .ok (.aload_n 0, 1) := by decide +kernel
theorem dX4_init_13 : decode cX4_init 13 = .ok (.bipush 40, 2) := by decide +kernel
theorem dX4_init_15 : decode cX4_init 15 = .ok (.newarray .int, 2) := by decide +kernel
theorem dX4_init_17 : decode cX4_init 17 = .ok (.putfield 15, 3) := by decide +kernel
theorem dX4_init_20 : decode cX4_init 20 = .ok (.aload_n 0, 1) := by decide +kernel
theorem dX4_init_21 : decode cX4_init 21 = .ok (.bipush 40, 2) := by decide +kernel
theorem dX4_init_23 : decode cX4_init 23 = .ok (.newarray .int, 2) := by decide +kernel
theorem dX4_init_25 : decode cX4_init 25 = .ok (.putfield 18, 3) := by decide +kernel
theorem dX4_init_28 : decode cX4_init 28 = .ok (.aload_n 0, 1) := by decide +kernel
theorem dX4_init_29 : decode cX4_init 29 = .ok (.bipush 40, 2) := by decide +kernel
theorem dX4_init_31 : decode cX4_init 31 = .ok (.newarray .int, 2) := by decide +kernel
theorem dX4_init_33 : decode cX4_init 33 = .ok (.putfield 21, 3) := by decide +kernel
theorem dX4_init_36 : decode cX4_init 36 = .ok (.aload_n 0, 1) := by decide +kernel
theorem dX4_init_37 : decode cX4_init 37 = .ok (.bipush 40, 2) := by decide +kernel
theorem dX4_init_39 : decode cX4_init 39 = .ok (.newarray .int, 2) := by decide +kernel
theorem dX4_init_41 : decode cX4_init 41 = .ok (.putfield 24, 3) := by decide +kernel
theorem dX4_init_44 : decode cX4_init 44 = .ok (.return_, 1) := by decide +kernel
theorem dX4_run_0 : decode cX4_run 0 = .ok (.iload 5, 2) := by decide +kernel
theorem dX4_run_2 : decode cX4_run 2 = .ok (.istore 6, 2) := by decide +kernel
theorem dX4_run_4 : decode cX4_run 4 = .ok (.iconst 0, 1) := by decide +kernel
theorem dX4_run_5 : decode cX4_run 5 = .ok (.istore 7, 2) := by decide +kernel
theorem dX4_run_7 : decode cX4_run 7 = .ok (.iconst 0, 1) := by decide +kernel
theorem dX4_run_8 : decode cX4_run 8 = .ok (.istore 8, 2) := by decide +kernel
theorem dX4_run_10 : decode cX4_run 10 = .ok (.iload 8, 2) := by decide +kernel
theorem dX4_run_12 : decode cX4_run 12 = .ok (.bipush 40, 2) := by decide +kernel
theorem dX4_run_14 : decode cX4_run 14 = .ok (.if_icmp .ge 127, 3) := by decide +kernel
theorem dX4_run_17 : decode cX4_run 17 = .ok (.aload_n 0, 1) := by decide +kernel
theorem dX4_run_18 : decode cX4_run 18 = .ok (.getfield 21, 3) := by decide +kernel
theorem dX4_run_21 : decode cX4_run 21 = .ok (.iload 8, 2) := by decide +kernel
theorem dX4_run_23 : decode cX4_run 23 = .ok (.iload 6, 2) := by decide +kernel
theorem dX4_run_25 : decode cX4_run 25 = .ok (.iastore, 1) := by decide +kernel
theorem dX4_run_26 : decode cX4_run 26 = .ok (.aload_n 0, 1) := by decide +kernel
theorem dX4_run_27 : decode cX4_run 27 = .ok (.getfield 24, 3) := by decide +kernel
theorem dX4_run_30 : decode cX4_run 30 = .ok (.iload 8, 2) := by decide +kernel
theorem dX4_run_32 : decode cX4_run 32 = .ok (.iload 7, 2) := by decide +kernel
theorem dX4_run_34 : decode cX4_run 34 = .ok (.iastore, 1) := by decide +kernel
theorem dX4_run_35 : decode cX4_run 35 = .ok (.aload_n 0, 1) := by decide +kernel
theorem dX4_run_36 : decode cX4_run 36 = .ok (.getfield 18, 3) := by decide +kernel
theorem dX4_run_39 : decode cX4_run 39 = .ok (.iload 8, 2) := by decide +kernel
theorem dX4_run_41 : decode cX4_run 41 = .ok (.aload_n 2, 1) := by decide +kernel
theorem dX4_run_42 : decode cX4_run 42 = .ok (.iload 7, 2) := by decide +kernel
theorem dX4_run_44 : decode cX4_run 44 = .ok (.bipush 10, 2) := by decide +kernel
theorem dX4_run_46 : decode cX4_run 46 = .ok (.idiv, 1) := by decide +kernel
theorem dX4_run_47 : decode cX4_run 47 = .ok (.invokevirtual 27, 3) := by decide +kernel
theorem dX4_run_50 : decode cX4_run 50 = .ok (.iload_n 1, 1) := by decide +kernel
theorem dX4_run_51 : decode cX4_run 51 = .ok (.imul, 1) := by decide +kernel
theorem dX4_run_52 : decode cX4_run 52 = .ok (.iastore, 1) := by decide +kernel
theorem dX4_run_53 : decode cX4_run 53 = .ok (.aload_n 0, 1) := by decide +kernel
theorem dX4_run_54 : decode cX4_run 54 = .ok (.getfield 9, 3) := by decide +kernel
theorem dX4_run_57 : decode cX4_run 57 = .ok (.iload 8, 2) := by decide +kernel
theorem dX4_run_59 : decode cX4_run 59 = .ok (.aload_n 0, 1) := by decide +kernel
theorem dX4_run_60 : decode cX4_run 60 = .ok (.aload_n 3, 1) := by decide +kernel
theorem dX4_run_61 : decode cX4_run 61 = .ok (.iload 8, 2) := by decide +kernel
theorem dX4_run_63 : decode cX4_run 63 = .ok (.aload_n 0, 1) := by decide +kernel
theorem dX4_run_64 : decode cX4_run 64 = .ok (.getfield 9, 3) := by decide +kernel
theorem dX4_run_67 : decode cX4_run 67 = .ok (.aload_n 0, 1) := by decide +kernel
theorem dX4_run_68 : decode cX4_run 68 = .ok (.getfield 15, 3) := by decide +kernel
theorem dX4_run_71 : decode cX4_run 71 = .ok (.invokevirtual 33, 3) := by decide +kernel
theorem dX4_run_74 : decode cX4_run 74 = .ok (.iastore, 1) := by decide +kernel
theorem dX4_run_75 : decode cX4_run 75 = .ok (.aload_n 0, 1) := by decide +kernel
theorem dX4_run_76 : decode cX4_run 76 = .ok (.getfield 15, 3) := by decide +kernel
theorem dX4_run_79 : decode cX4_run 79 = .ok (.iload 8, 2) := by decide +kernel
theorem dX4_run_81 : decode cX4_run 81 = .ok (.aload_n 0, 1) := by decide +kernel
theorem dX4_run_82 : decode cX4_run 82 = .ok (.aload 4, 2) := by decide +kernel
theorem dX4_run_84 : decode cX4_run 84 = .ok (.iload 8, 2) := by decide +kernel
theorem dX4_run_86 : decode cX4_run 86 = .ok (.aload_n 0, 1) := by decide +kernel
theorem dX4_run_87 : decode cX4_run 87 = .ok (.getfield 15, 3) := by decide +kernel
theorem dX4_run_90 : decode cX4_run 90 = .ok (.aload_n 0, 1) := by decide +kernel
theorem dX4_run_91 : decode cX4_run 91 = .ok (.getfield 9, 3) := by decide +kernel
theorem dX4_run_94 : decode cX4_run 94 = .ok (.invokevirtual 33, 3) := by decide +kernel
theorem dX4_run_97 : decode cX4_run 97 = .ok (.iastore, 1) := by decide +kernel
theorem dX4_run_98 : decode cX4_run 98 = .ok (.iload 7, 2) := by decide +kernel
theorem dX4_run_100 : decode cX4_run 100 = .ok (.iload 6, 2) := by decide +kernel
theorem dX4_run_102 : decode cX4_run 102 = .ok (.iadd, 1) := by decide +kernel
theorem dX4_run_103 : decode cX4_run 103 = .ok (.istore 7, 2) := by decide +kernel
theorem dX4_run_105 : decode cX4_run 105 = .ok (.iload 6, 2) := by decide +kernel
theorem dX4_run_107 : decode cX4_run 107 = .ok (.aload_n 0, 1) := by decide +kernel
theorem dX4_run_108 : decode cX4_run 108 = .ok (.getfield 9, 3) := by decide +kernel
theorem dX4_run_111 : decode cX4_run 111 = .ok (.iload 8, 2) := by decide +kernel
theorem dX4_run_113 : decode cX4_run 113 = .ok (.iaload, 1) := by decide +kernel
theorem dX4_run_114 : decode cX4_run 114 = .ok (.aload_n 0, 1) := by decide +kernel
theorem dX4_run_115 : decode cX4_run 115 = .ok (.getfield 15, 3) := by decide +kernel
theorem dX4_run_118 : decode cX4_run 118 = .ok (.iload 8, 2) := by decide +kernel
theorem dX4_run_120 : decode cX4_run 120 = .ok (.iaload, 1) := by decide +kernel
theorem dX4_run_121 : decode cX4_run 121 = .ok (.iadd, 1) := by decide +kernel
theorem dX4_run_122 : decode cX4_run 122 = .ok (.aload_n 0, 1) := by decide +kernel
theorem dX4_run_123 : decode cX4_run 123 = .ok (.getfield 18, 3) := by decide +kernel
theorem dX4_run_126 : decode cX4_run 126 = .ok (.iload 8, 2) := by decide +kernel
theorem dX4_run_128 : decode cX4_run 128 = .ok (.iaload, 1) := by decide +kernel
theorem dX4_run_129 : decode cX4_run 129 = .ok (.isub, 1) := by decide +kernel
theorem dX4_run_130 : decode cX4_run 130 = .ok (.invokestatic 37, 3) := by decide +kernel
theorem dX4_run_133 : decode cX4_run 133 = .ok (.istore 6, 2) := by decide +kernel
theorem dX4_run_135 : decode cX4_run 135 = .ok (.iinc 8 1, 3) := by decide +kernel
theorem dX4_run_138 : decode cX4_run 138 = .ok (.goto (-128), 3) := by decide +kernel
theorem dX4_run_141 : decode cX4_run 141 = .ok (.return_, 1) := by decide +kernel
theorem dX4_nextSpeed_0 : decode cX4_nextSpeed 0 = .ok (.iload_n 1, 1) := by decide +kernel
theorem dX4_nextSpeed_1 : decode cX4_nextSpeed 1 = .ok (.ifCond .le 12, 3) := by decide +kernel
theorem dX4_nextSpeed_4 : decode cX4_nextSpeed 4 = .ok (.iload_n 0, 1) := by decide +kernel
theorem dX4_nextSpeed_5 : decode cX4_nextSpeed 5 = .ok (.iconst 1, 1) := by decide +kernel
theorem dX4_nextSpeed_6 : decode cX4_nextSpeed 6 = .ok (.iadd, 1) := by decide +kernel
theorem dX4_nextSpeed_7 : decode cX4_nextSpeed 7 = .ok (.bipush 20, 2) := by decide +kernel
theorem dX4_nextSpeed_9 : decode cX4_nextSpeed 9 = .ok (.invokestatic 41, 3) := by decide +kernel
theorem dX4_nextSpeed_12 : decode cX4_nextSpeed 12 = .ok (.ireturn, 1) := by decide +kernel
theorem dX4_nextSpeed_13 : decode cX4_nextSpeed 13 = .ok (.iload_n 1, 1) := by decide +kernel
theorem dX4_nextSpeed_14 : decode cX4_nextSpeed 14 = .ok (.ifCond .ge 13, 3) := by decide +kernel
theorem dX4_nextSpeed_17 : decode cX4_nextSpeed 17 = .ok (.iload_n 0, 1) := by decide +kernel
theorem dX4_nextSpeed_18 : decode cX4_nextSpeed 18 = .ok (.iconst 1, 1) := by decide +kernel
theorem dX4_nextSpeed_19 : decode cX4_nextSpeed 19 = .ok (.isub, 1) := by decide +kernel
theorem dX4_nextSpeed_20 : decode cX4_nextSpeed 20 = .ok (.iconst 0, 1) := by decide +kernel
theorem dX4_nextSpeed_21 : decode cX4_nextSpeed 21 = .ok (.invokestatic 46, 3) := by decide +kernel
theorem dX4_nextSpeed_24 : decode cX4_nextSpeed 24 = .ok (.goto 4, 3) := by decide +kernel
theorem dX4_nextSpeed_27 : decode cX4_nextSpeed 27 = .ok (.iload_n 0, 1) := by decide +kernel
theorem dX4_nextSpeed_28 : decode cX4_nextSpeed 28 = .ok (.ireturn, 1) := by decide +kernel
theorem dX4_byRule_0 : decode cX4_byRule 0 = .ok (.iload_n 2, 1) := by decide +kernel
theorem dX4_byRule_1 : decode cX4_byRule 1 = .ok (.aload_n 1, 1) := by decide +kernel
theorem dX4_byRule_2 : decode cX4_byRule 2 = .ok (.iconst 2, 1) := by decide +kernel
theorem dX4_byRule_3 : decode cX4_byRule 3 = .ok (.invokevirtual 49, 3) := by decide +kernel
theorem dX4_byRule_6 : decode cX4_byRule 6 = .ok (.isub, 1) := by decide +kernel
theorem dX4_byRule_7 : decode cX4_byRule 7 = .ok (.istore 5, 2) := by decide +kernel
theorem dX4_byRule_9 : decode cX4_byRule 9 = .ok (.iload 5, 2) := by decide +kernel
theorem dX4_byRule_11 : decode cX4_byRule 11 = .ok (.ifCond .lt 22, 3) := by decide +kernel
theorem dX4_byRule_14 : decode cX4_byRule 14 = .ok (.iload 5, 2) := by decide +kernel
theorem dX4_byRule_16 : decode cX4_byRule 16 = .ok (.aload 4, 2) := by decide +kernel
theorem dX4_byRule_18 : decode cX4_byRule 18 = .ok (.arraylength, 1) := by decide +kernel
theorem dX4_byRule_19 : decode cX4_byRule 19 = .ok (.if_icmp .ge 14, 3) := by decide +kernel
theorem dX4_byRule_22 : decode cX4_byRule 22 = .ok (.iload_n 2, 1) := by decide +kernel
theorem dX4_byRule_23 : decode cX4_byRule 23 = .ok (.iconst 1, 1) := by decide +kernel
theorem dX4_byRule_24 : decode cX4_byRule 24 = .ok (.if_icmp .lt 9, 3) := by decide +kernel
theorem dX4_byRule_27 : decode cX4_byRule 27 = .ok (.iload_n 2, 1) := by decide +kernel
theorem dX4_byRule_28 : decode cX4_byRule 28 = .ok (.aload_n 3, 1) := by decide +kernel
theorem dX4_byRule_29 : decode cX4_byRule 29 = .ok (.arraylength, 1) := by decide +kernel
theorem dX4_byRule_30 : decode cX4_byRule 30 = .ok (.if_icmp .lt 9, 3) := by decide +kernel
theorem dX4_byRule_33 : decode cX4_byRule 33 = .ok (.aload_n 1, 1) := by decide +kernel
theorem dX4_byRule_34 : decode cX4_byRule 34 = .ok (.iconst 0, 1) := by decide +kernel
theorem dX4_byRule_35 : decode cX4_byRule 35 = .ok (.invokevirtual 49, 3) := by decide +kernel
theorem dX4_byRule_38 : decode cX4_byRule 38 = .ok (.ireturn, 1) := by decide +kernel
theorem dX4_byRule_39 : decode cX4_byRule 39 = .ok (.iconst 0, 1) := by decide +kernel
theorem dX4_byRule_40 : decode cX4_byRule 40 = .ok (.aload_n 0, 1) := by decide +kernel
theorem dX4_byRule_41 : decode cX4_byRule 41 = .ok (.getfield 18, 3) := by decide +kernel
theorem dX4_byRule_44 : decode cX4_byRule 44 = .ok (.iload_n 2, 1) := by decide +kernel
theorem dX4_byRule_45 : decode cX4_byRule 45 = .ok (.iaload, 1) := by decide +kernel
theorem dX4_byRule_46 : decode cX4_byRule 46 = .ok (.aload 4, 2) := by decide +kernel
theorem dX4_byRule_48 : decode cX4_byRule 48 = .ok (.iload 5, 2) := by decide +kernel
theorem dX4_byRule_50 : decode cX4_byRule 50 = .ok (.iaload, 1) := by decide +kernel
theorem dX4_byRule_51 : decode cX4_byRule 51 = .ok (.isub, 1) := by decide +kernel
theorem dX4_byRule_52 : decode cX4_byRule 52 = .ok (.sipush 999, 3) := by decide +kernel
theorem dX4_byRule_55 : decode cX4_byRule 55 = .ok (.invokestatic 41, 3) := by decide +kernel
theorem dX4_byRule_58 : decode cX4_byRule 58 = .ok (.invokestatic 46, 3) := by decide +kernel
theorem dX4_byRule_61 : decode cX4_byRule 61 = .ok (.istore 6, 2) := by decide +kernel
theorem dX4_byRule_63 : decode cX4_byRule 63 = .ok (.aload_n 1, 1) := by decide +kernel
theorem dX4_byRule_64 : decode cX4_byRule 64 = .ok (.iconst 1, 1) := by decide +kernel
theorem dX4_byRule_65 : decode cX4_byRule 65 = .ok (.invokevirtual 49, 3) := by decide +kernel
theorem dX4_byRule_68 : decode cX4_byRule 68 = .ok (.tableswitch 48 1 3 #[28, 31, 37], 28) := by decide +kernel
theorem dX4_byRule_96 : decode cX4_byRule 96 = .ok (.iload 6, 2) := by decide +kernel
theorem dX4_byRule_98 : decode cX4_byRule 98 = .ok (.ireturn, 1) := by decide +kernel
theorem dX4_byRule_99 : decode cX4_byRule 99 = .ok (.aload 4, 2) := by decide +kernel
theorem dX4_byRule_101 : decode cX4_byRule 101 = .ok (.iload 5, 2) := by decide +kernel
theorem dX4_byRule_103 : decode cX4_byRule 103 = .ok (.iaload, 1) := by decide +kernel
theorem dX4_byRule_104 : decode cX4_byRule 104 = .ok (.ireturn, 1) := by decide +kernel
theorem dX4_byRule_105 : decode cX4_byRule 105 = .ok (.aload_n 3, 1) := by decide +kernel
theorem dX4_byRule_106 : decode cX4_byRule 106 = .ok (.iload_n 2, 1) := by decide +kernel
theorem dX4_byRule_107 : decode cX4_byRule 107 = .ok (.iconst 1, 1) := by decide +kernel
theorem dX4_byRule_108 : decode cX4_byRule 108 = .ok (.isub, 1) := by decide +kernel
theorem dX4_byRule_109 : decode cX4_byRule 109 = .ok (.iaload, 1) := by decide +kernel
theorem dX4_byRule_110 : decode cX4_byRule 110 = .ok (.iload 6, 2) := by decide +kernel
theorem dX4_byRule_112 : decode cX4_byRule 112 = .ok (.iadd, 1) := by decide +kernel
theorem dX4_byRule_113 : decode cX4_byRule 113 = .ok (.iconst 2, 1) := by decide +kernel
theorem dX4_byRule_114 : decode cX4_byRule 114 = .ok (.idiv, 1) := by decide +kernel
theorem dX4_byRule_115 : decode cX4_byRule 115 = .ok (.ireturn, 1) := by decide +kernel
theorem dX4_byRule_116 : decode cX4_byRule 116 = .ok (.aload_n 1, 1) := by decide +kernel
theorem dX4_byRule_117 : decode cX4_byRule 117 = .ok (.iconst 0, 1) := by decide +kernel
theorem dX4_byRule_118 : decode cX4_byRule 118 = .ok (.invokevirtual 49, 3) := by decide +kernel
theorem dX4_byRule_121 : decode cX4_byRule 121 = .ok (.ireturn, 1) := by decide +kernel
theorem dX4_given_0 : decode cX4_given 0 = .ok (.iload_n 2, 1) := by decide +kernel
theorem dX4_given_1 : decode cX4_given 1 = .ok (.ifCond .lt 9, 3) := by decide +kernel
theorem dX4_given_4 : decode cX4_given 4 = .ok (.iload_n 2, 1) := by decide +kernel
theorem dX4_given_5 : decode cX4_given 5 = .ok (.bipush 40, 2) := by decide +kernel
theorem dX4_given_7 : decode cX4_given 7 = .ok (.if_icmp .lt 5, 3) := by decide +kernel
theorem dX4_given_10 : decode cX4_given 10 = .ok (.iconst 0, 1) := by decide +kernel
theorem dX4_given_11 : decode cX4_given 11 = .ok (.ireturn, 1) := by decide +kernel
theorem dX4_given_12 : decode cX4_given 12 = .ok (.iload_n 1, 1) := by decide +kernel
theorem dX4_given_13 : decode cX4_given 13 = .ok (.ifCond .ne 12, 3) := by decide +kernel
theorem dX4_given_16 : decode cX4_given 16 = .ok (.aload_n 0, 1) := by decide +kernel
theorem dX4_given_17 : decode cX4_given 17 = .ok (.getfield 9, 3) := by decide +kernel
theorem dX4_given_20 : decode cX4_given 20 = .ok (.iload_n 2, 1) := by decide +kernel
theorem dX4_given_21 : decode cX4_given 21 = .ok (.iaload, 1) := by decide +kernel
theorem dX4_given_22 : decode cX4_given 22 = .ok (.goto 9, 3) := by decide +kernel
theorem dX4_given_25 : decode cX4_given 25 = .ok (.aload_n 0, 1) := by decide +kernel
theorem dX4_given_26 : decode cX4_given 26 = .ok (.getfield 15, 3) := by decide +kernel
theorem dX4_given_29 : decode cX4_given 29 = .ok (.iload_n 2, 1) := by decide +kernel
theorem dX4_given_30 : decode cX4_given 30 = .ok (.iaload, 1) := by decide +kernel
theorem dX4_given_31 : decode cX4_given 31 = .ok (.ireturn, 1) := by decide +kernel
theorem dX4_neededIn_0 : decode cX4_neededIn 0 = .ok (.iload_n 1, 1) := by decide +kernel
theorem dX4_neededIn_1 : decode cX4_neededIn 1 = .ok (.ifCond .lt 18, 3) := by decide +kernel
theorem dX4_neededIn_4 : decode cX4_neededIn 4 = .ok (.iload_n 1, 1) := by decide +kernel
theorem dX4_neededIn_5 : decode cX4_neededIn 5 = .ok (.bipush 40, 2) := by decide +kernel
theorem dX4_neededIn_7 : decode cX4_neededIn 7 = .ok (.if_icmp .ge 12, 3) := by decide +kernel
theorem dX4_neededIn_10 : decode cX4_neededIn 10 = .ok (.aload_n 0, 1) := by decide +kernel
theorem dX4_neededIn_11 : decode cX4_neededIn 11 = .ok (.getfield 18, 3) := by decide +kernel
theorem dX4_neededIn_14 : decode cX4_neededIn 14 = .ok (.iload_n 1, 1) := by decide +kernel
theorem dX4_neededIn_15 : decode cX4_neededIn 15 = .ok (.iaload, 1) := by decide +kernel
theorem dX4_neededIn_16 : decode cX4_neededIn 16 = .ok (.goto 4, 3) := by decide +kernel
theorem dX4_neededIn_19 : decode cX4_neededIn 19 = .ok (.iconst 0, 1) := by decide +kernel
theorem dX4_neededIn_20 : decode cX4_neededIn 20 = .ok (.ireturn, 1) := by decide +kernel
theorem dX4_speedIn_0 : decode cX4_speedIn 0 = .ok (.iload_n 1, 1) := by decide +kernel
theorem dX4_speedIn_1 : decode cX4_speedIn 1 = .ok (.ifCond .lt 18, 3) := by decide +kernel
theorem dX4_speedIn_4 : decode cX4_speedIn 4 = .ok (.iload_n 1, 1) := by decide +kernel
theorem dX4_speedIn_5 : decode cX4_speedIn 5 = .ok (.bipush 40, 2) := by decide +kernel
theorem dX4_speedIn_7 : decode cX4_speedIn 7 = .ok (.if_icmp .ge 12, 3) := by decide +kernel
theorem dX4_speedIn_10 : decode cX4_speedIn 10 = .ok (.aload_n 0, 1) := by decide +kernel
theorem dX4_speedIn_11 : decode cX4_speedIn 11 = .ok (.getfield 21, 3) := by decide +kernel
theorem dX4_speedIn_14 : decode cX4_speedIn 14 = .ok (.iload_n 1, 1) := by decide +kernel
theorem dX4_speedIn_15 : decode cX4_speedIn 15 = .ok (.iaload, 1) := by decide +kernel
theorem dX4_speedIn_16 : decode cX4_speedIn 16 = .ok (.goto 4, 3) := by decide +kernel
theorem dX4_speedIn_19 : decode cX4_speedIn 19 = .ok (.iconst 0, 1) := by decide +kernel
theorem dX4_speedIn_20 : decode cX4_speedIn 20 = .ok (.ireturn, 1) := by decide +kernel
theorem dX4_placeIn_0 : decode cX4_placeIn 0 = .ok (.iload_n 1, 1) := by decide +kernel
theorem dX4_placeIn_1 : decode cX4_placeIn 1 = .ok (.ifCond .lt 21, 3) := by decide +kernel
theorem dX4_placeIn_4 : decode cX4_placeIn 4 = .ok (.iload_n 1, 1) := by decide +kernel
theorem dX4_placeIn_5 : decode cX4_placeIn 5 = .ok (.bipush 40, 2) := by decide +kernel
theorem dX4_placeIn_7 : decode cX4_placeIn 7 = .ok (.if_icmp .ge 15, 3) := by decide +kernel
theorem dX4_placeIn_10 : decode cX4_placeIn 10 = .ok (.aload_n 0, 1) := by decide +kernel
theorem dX4_placeIn_11 : decode cX4_placeIn 11 = .ok (.getfield 24, 3) := by decide +kernel
theorem dX4_placeIn_14 : decode cX4_placeIn 14 = .ok (.iload_n 1, 1) := by decide +kernel
theorem dX4_placeIn_15 : decode cX4_placeIn 15 = .ok (.iaload, 1) := by decide +kernel
theorem dX4_placeIn_16 : decode cX4_placeIn 16 = .ok (.bipush 10, 2) := by decide +kernel
theorem dX4_placeIn_18 : decode cX4_placeIn 18 = .ok (.idiv, 1) := by decide +kernel
theorem dX4_placeIn_19 : decode cX4_placeIn 19 = .ok (.goto 4, 3) := by decide +kernel
theorem dX4_placeIn_22 : decode cX4_placeIn 22 = .ok (.iconst 0, 1) := by decide +kernel
theorem dX4_placeIn_23 : decode cX4_placeIn 23 = .ok (.ireturn, 1) := by decide +kernel
theorem dX4_allGiven_0 : decode cX4_allGiven 0 = .ok (.iconst 0, 1) := by decide +kernel
theorem dX4_allGiven_1 : decode cX4_allGiven 1 = .ok (.istore_n 2, 1) := by decide +kernel
theorem dX4_allGiven_2 : decode cX4_allGiven 2 = .ok (.iconst 0, 1) := by decide +kernel
theorem dX4_allGiven_3 : decode cX4_allGiven 3 = .ok (.istore_n 3, 1) := by decide +kernel
theorem dX4_allGiven_4 : decode cX4_allGiven 4 = .ok (.iload_n 3, 1) := by decide +kernel
theorem dX4_allGiven_5 : decode cX4_allGiven 5 = .ok (.bipush 40, 2) := by decide +kernel
theorem dX4_allGiven_7 : decode cX4_allGiven 7 = .ok (.if_icmp .ge 18, 3) := by decide +kernel
theorem dX4_allGiven_10 : decode cX4_allGiven 10 = .ok (.iload_n 2, 1) := by decide +kernel
theorem dX4_allGiven_11 : decode cX4_allGiven 11 = .ok (.aload_n 0, 1) := by decide +kernel
theorem dX4_allGiven_12 : decode cX4_allGiven 12 = .ok (.iload_n 1, 1) := by decide +kernel
theorem dX4_allGiven_13 : decode cX4_allGiven 13 = .ok (.iload_n 3, 1) := by decide +kernel
theorem dX4_allGiven_14 : decode cX4_allGiven 14 = .ok (.invokevirtual 54, 3) := by decide +kernel
theorem dX4_allGiven_17 : decode cX4_allGiven 17 = .ok (.iadd, 1) := by decide +kernel
theorem dX4_allGiven_18 : decode cX4_allGiven 18 = .ok (.istore_n 2, 1) := by decide +kernel
theorem dX4_allGiven_19 : decode cX4_allGiven 19 = .ok (.iinc 3 1, 3) := by decide +kernel
theorem dX4_allGiven_22 : decode cX4_allGiven 22 = .ok (.goto (-18), 3) := by decide +kernel
theorem dX4_allGiven_25 : decode cX4_allGiven 25 = .ok (.iload_n 2, 1) := by decide +kernel
theorem dX4_allGiven_26 : decode cX4_allGiven 26 = .ok (.ireturn, 1) := by decide +kernel
theorem dX4_givesAlike_0 : decode cX4_givesAlike 0 = .ok (.aload_n 0, 1) := by decide +kernel
theorem dX4_givesAlike_1 : decode cX4_givesAlike 1 = .ok (.iconst 0, 1) := by decide +kernel
theorem dX4_givesAlike_2 : decode cX4_givesAlike 2 = .ok (.iload_n 1, 1) := by decide +kernel
theorem dX4_givesAlike_3 : decode cX4_givesAlike 3 = .ok (.invokevirtual 54, 3) := by decide +kernel
theorem dX4_givesAlike_6 : decode cX4_givesAlike 6 = .ok (.aload_n 0, 1) := by decide +kernel
theorem dX4_givesAlike_7 : decode cX4_givesAlike 7 = .ok (.iconst 0, 1) := by decide +kernel
theorem dX4_givesAlike_8 : decode cX4_givesAlike 8 = .ok (.iload_n 2, 1) := by decide +kernel
theorem dX4_givesAlike_9 : decode cX4_givesAlike 9 = .ok (.invokevirtual 54, 3) := by decide +kernel
theorem dX4_givesAlike_12 : decode cX4_givesAlike 12 = .ok (.if_icmp .ne 22, 3) := by decide +kernel
theorem dX4_givesAlike_15 : decode cX4_givesAlike 15 = .ok (.aload_n 0, 1) := by decide +kernel
theorem dX4_givesAlike_16 : decode cX4_givesAlike 16 = .ok (.iconst 1, 1) := by decide +kernel
theorem dX4_givesAlike_17 : decode cX4_givesAlike 17 = .ok (.iload_n 1, 1) := by decide +kernel
theorem dX4_givesAlike_18 : decode cX4_givesAlike 18 = .ok (.invokevirtual 54, 3) := by decide +kernel
theorem dX4_givesAlike_21 : decode cX4_givesAlike 21 = .ok (.aload_n 0, 1) := by decide +kernel
theorem dX4_givesAlike_22 : decode cX4_givesAlike 22 = .ok (.iconst 1, 1) := by decide +kernel
theorem dX4_givesAlike_23 : decode cX4_givesAlike 23 = .ok (.iload_n 2, 1) := by decide +kernel
theorem dX4_givesAlike_24 : decode cX4_givesAlike 24 = .ok (.invokevirtual 54, 3) := by decide +kernel
theorem dX4_givesAlike_27 : decode cX4_givesAlike 27 = .ok (.if_icmp .ne 7, 3) := by decide +kernel
theorem dX4_givesAlike_30 : decode cX4_givesAlike 30 = .ok (.iconst 1, 1) := by decide +kernel
theorem dX4_givesAlike_31 : decode cX4_givesAlike 31 = .ok (.goto 4, 3) := by decide +kernel
theorem dX4_givesAlike_34 : decode cX4_givesAlike 34 = .ok (.iconst 0, 1) := by decide +kernel
theorem dX4_givesAlike_35 : decode cX4_givesAlike 35 = .ok (.ireturn, 1) := by decide +kernel
theorem dX4_comesAgain_0 : decode cX4_comesAgain 0 = .ok (.bipush 20, 2) := by decide +kernel
theorem dX4_comesAgain_2 : decode cX4_comesAgain 2 = .ok (.istore_n 2, 1) := by decide +kernel
theorem dX4_comesAgain_3 : decode cX4_comesAgain 3 = .ok (.iload_n 2, 1) := by decide +kernel
theorem dX4_comesAgain_4 : decode cX4_comesAgain 4 = .ok (.iload_n 1, 1) := by decide +kernel
theorem dX4_comesAgain_5 : decode cX4_comesAgain 5 = .ok (.iadd, 1) := by decide +kernel
theorem dX4_comesAgain_6 : decode cX4_comesAgain 6 = .ok (.bipush 40, 2) := by decide +kernel
theorem dX4_comesAgain_8 : decode cX4_comesAgain 8 = .ok (.if_icmp .ge 22, 3) := by decide +kernel
theorem dX4_comesAgain_11 : decode cX4_comesAgain 11 = .ok (.aload_n 0, 1) := by decide +kernel
theorem dX4_comesAgain_12 : decode cX4_comesAgain 12 = .ok (.iload_n 2, 1) := by decide +kernel
theorem dX4_comesAgain_13 : decode cX4_comesAgain 13 = .ok (.iload_n 2, 1) := by decide +kernel
theorem dX4_comesAgain_14 : decode cX4_comesAgain 14 = .ok (.iload_n 1, 1) := by decide +kernel
theorem dX4_comesAgain_15 : decode cX4_comesAgain 15 = .ok (.iadd, 1) := by decide +kernel
theorem dX4_comesAgain_16 : decode cX4_comesAgain 16 = .ok (.invokevirtual 57, 3) := by decide +kernel
theorem dX4_comesAgain_19 : decode cX4_comesAgain 19 = .ok (.ifCond .ne 5, 3) := by decide +kernel
theorem dX4_comesAgain_22 : decode cX4_comesAgain 22 = .ok (.iconst 0, 1) := by decide +kernel
theorem dX4_comesAgain_23 : decode cX4_comesAgain 23 = .ok (.ireturn, 1) := by decide +kernel
theorem dX4_comesAgain_24 : decode cX4_comesAgain 24 = .ok (.iinc 2 1, 3) := by decide +kernel
theorem dX4_comesAgain_27 : decode cX4_comesAgain 27 = .ok (.goto (-24), 3) := by decide +kernel
theorem dX4_comesAgain_30 : decode cX4_comesAgain 30 = .ok (.iconst 1, 1) := by decide +kernel
theorem dX4_comesAgain_31 : decode cX4_comesAgain 31 = .ok (.ireturn, 1) := by decide +kernel
theorem dX5_init_0 : decode cX5_init 0 = .ok (.aload_n 0, 1) := by decide +kernel
theorem dX5_init_1 : decode cX5_init 1 = .ok (.invokespecial 3, 3) := by decide +kernel
theorem dX5_init_4 : decode cX5_init 4 = .ok (.aload_n 0, 1) := by decide +kernel
theorem dX5_init_5 : decode cX5_init 5 = .ok (.bipush 60, 2) := by decide +kernel
theorem dX5_init_7 : decode cX5_init 7 = .ok (.newarray .int, 2) := by decide +kernel
theorem dX5_init_9 : decode cX5_init 9 = .ok (.putfield 9, 3) := by decide +kernel
theorem dX5_init_12 : decode cX5_init 12 = .ok (.aload_n 0, 1) := by decide +kernel
theorem dX5_init_13 : decode cX5_init 13 = .ok (.iconst (-1), 1) := by decide +kernel
theorem dX5_init_14 : decode cX5_init 14 = .ok (.putfield 15, 3) := by decide +kernel
theorem dX5_init_17 : decode cX5_init 17 = .ok (.aload_n 0, 1) := by decide +kernel
theorem dX5_init_18 : decode cX5_init 18 = .ok (.iconst 0, 1) := by decide +kernel
theorem dX5_init_19 : decode cX5_init 19 = .ok (.putfield 19, 3) := by decide +kernel
theorem dX5_init_22 : decode cX5_init 22 = .ok (.return_, 1) := by decide +kernel
theorem dX5_isLost_0 : decode cX5_isLost 0 = .ok (.aload_n 0, 1) := by decide +kernel
theorem dX5_isLost_1 : decode cX5_isLost 1 = .ok (.getfield 15, 3) := by decide +kernel
theorem dX5_isLost_4 : decode cX5_isLost 4 = .ok (.iconst (-1), 1) := by decide +kernel
theorem dX5_isLost_5 : decode cX5_isLost 5 = .ok (.if_icmp .ne 7, 3) := by decide +kernel
theorem dX5_isLost_8 : decode cX5_isLost 8 = .ok (.iconst 1, 1) := by decide +kernel
theorem dX5_isLost_9 : decode cX5_isLost 9 = .ok (.goto 4, 3) := by decide +kernel
theorem dX5_isLost_12 : decode cX5_isLost 12 = .ok (.iconst 0, 1) := by decide +kernel
theorem dX5_isLost_13 : decode cX5_isLost 13 = .ok (.ireturn, 1) := by decide +kernel
theorem dX5_isOfForm_0 : decode cX5_isOfForm 0 = .ok (.aload_n 0, 1) := by decide +kernel
theorem dX5_isOfForm_1 : decode cX5_isOfForm 1 = .ok (.getfield 15, 3) := by decide +kernel
theorem dX5_isOfForm_4 : decode cX5_isOfForm 4 = .ok (.iload_n 1, 1) := by decide +kernel
theorem dX5_isOfForm_5 : decode cX5_isOfForm 5 = .ok (.if_icmp .ne 7, 3) := by decide +kernel
theorem dX5_isOfForm_8 : decode cX5_isOfForm 8 = .ok (.iconst 1, 1) := by decide +kernel
theorem dX5_isOfForm_9 : decode cX5_isOfForm 9 = .ok (.goto 4, 3) := by decide +kernel
theorem dX5_isOfForm_12 : decode cX5_isOfForm 12 = .ok (.iconst 0, 1) := by decide +kernel
theorem dX5_isOfForm_13 : decode cX5_isOfForm 13 = .ok (.ireturn, 1) := by decide +kernel
theorem dX5_formNumber_0 : decode cX5_formNumber 0 = .ok (.aload_n 0, 1) := by decide +kernel
theorem dX5_formNumber_1 : decode cX5_formNumber 1 = .ok (.getfield 15, 3) := by decide +kernel
theorem dX5_formNumber_4 : decode cX5_formNumber 4 = .ok (.ireturn, 1) := by decide +kernel
theorem dX5_size_0 : decode cX5_size 0 = .ok (.aload_n 0, 1) := by decide +kernel
theorem dX5_size_1 : decode cX5_size 1 = .ok (.getfield 19, 3) := by decide +kernel
theorem dX5_size_4 : decode cX5_size 4 = .ok (.ireturn, 1) := by decide +kernel
theorem dX5_renew_0 : decode cX5_renew 0 = .ok (.aload_n 0, 1) := by decide +kernel
theorem dX5_renew_1 : decode cX5_renew 1 = .ok (.iload_n 1, 1) := by decide +kernel
theorem dX5_renew_2 : decode cX5_renew 2 = .ok (.putfield 15, 3) := by decide +kernel
theorem dX5_renew_5 : decode cX5_renew 5 = .ok (.aload_n 0, 1) := by decide +kernel
theorem dX5_renew_6 : decode cX5_renew 6 = .ok (.iconst 0, 1) := by decide +kernel
theorem dX5_renew_7 : decode cX5_renew 7 = .ok (.iload_n 2, 1) := by decide +kernel
theorem dX5_renew_8 : decode cX5_renew 8 = .ok (.bipush 60, 2) := by decide +kernel
theorem dX5_renew_10 : decode cX5_renew 10 = .ok (.invokestatic 22, 3) := by decide +kernel
theorem dX5_renew_13 : decode cX5_renew 13 = .ok (.invokestatic 28, 3) := by decide +kernel
theorem dX5_renew_16 : decode cX5_renew 16 = .ok (.putfield 19, 3) := by decide +kernel
theorem dX5_renew_19 : decode cX5_renew 19 = .ok (.iconst 0, 1) := by decide +kernel
theorem dX5_renew_20 : decode cX5_renew 20 = .ok (.istore_n 3, 1) := by decide +kernel
theorem dX5_renew_21 : decode cX5_renew 21 = .ok (.iload_n 3, 1) := by decide +kernel
theorem dX5_renew_22 : decode cX5_renew 22 = .ok (.bipush 60, 2) := by decide +kernel
theorem dX5_renew_24 : decode cX5_renew 24 = .ok (.if_icmp .ge 16, 3) := by decide +kernel
theorem dX5_renew_27 : decode cX5_renew 27 = .ok (.aload_n 0, 1) := by decide +kernel
theorem dX5_renew_28 : decode cX5_renew 28 = .ok (.getfield 9, 3) := by decide +kernel
theorem dX5_renew_31 : decode cX5_renew 31 = .ok (.iload_n 3, 1) := by decide +kernel
theorem dX5_renew_32 : decode cX5_renew 32 = .ok (.iconst 0, 1) := by decide +kernel
theorem dX5_renew_33 : decode cX5_renew 33 = .ok (.iastore, 1) := by decide +kernel
theorem dX5_renew_34 : decode cX5_renew 34 = .ok (.iinc 3 1, 3) := by decide +kernel
theorem dX5_renew_37 : decode cX5_renew 37 = .ok (.goto (-16), 3) := by decide +kernel
theorem dX5_renew_40 : decode cX5_renew 40 = .ok (.return_, 1) := by decide +kernel
theorem dX5_drop_0 : decode cX5_drop 0 = .ok (.aload_n 0, 1) := by decide +kernel
theorem dX5_drop_1 : decode cX5_drop 1 = .ok (.iconst (-1), 1) := by decide +kernel
theorem dX5_drop_2 : decode cX5_drop 2 = .ok (.putfield 15, 3) := by decide +kernel
theorem dX5_drop_5 : decode cX5_drop 5 = .ok (.aload_n 0, 1) := by decide +kernel
theorem dX5_drop_6 : decode cX5_drop 6 = .ok (.iconst 0, 1) := by decide +kernel
theorem dX5_drop_7 : decode cX5_drop 7 = .ok (.putfield 19, 3) := by decide +kernel
theorem dX5_drop_10 : decode cX5_drop 10 = .ok (.return_, 1) := by decide +kernel
theorem dX5_hasItems_0 : decode cX5_hasItems 0 = .ok (.iload_n 1, 1) := by decide +kernel
theorem dX5_hasItems_1 : decode cX5_hasItems 1 = .ok (.ifCond .lt 21, 3) := by decide +kernel
theorem dX5_hasItems_4 : decode cX5_hasItems 4 = .ok (.iload_n 2, 1) := by decide +kernel
theorem dX5_hasItems_5 : decode cX5_hasItems 5 = .ok (.ifCond .lt 17, 3) := by decide +kernel
theorem dX5_hasItems_8 : decode cX5_hasItems 8 = .ok (.iload_n 1, 1) := by decide +kernel
theorem dX5_hasItems_9 : decode cX5_hasItems 9 = .ok (.aload_n 0, 1) := by decide +kernel
theorem dX5_hasItems_10 : decode cX5_hasItems 10 = .ok (.getfield 19, 3) := by decide +kernel
theorem dX5_hasItems_13 : decode cX5_hasItems 13 = .ok (.iload_n 2, 1) := by decide +kernel
theorem dX5_hasItems_14 : decode cX5_hasItems 14 = .ok (.isub, 1) := by decide +kernel
theorem dX5_hasItems_15 : decode cX5_hasItems 15 = .ok (.if_icmp .gt 7, 3) := by decide +kernel
theorem dX5_hasItems_18 : decode cX5_hasItems 18 = .ok (.iconst 1, 1) := by decide +kernel
theorem dX5_hasItems_19 : decode cX5_hasItems 19 = .ok (.goto 4, 3) := by decide +kernel
theorem dX5_hasItems_22 : decode cX5_hasItems 22 = .ok (.iconst 0, 1) := by decide +kernel
theorem dX5_hasItems_23 : decode cX5_hasItems 23 = .ok (.ireturn, 1) := by decide +kernel
theorem dX5_itemAt_0 : decode cX5_itemAt 0 = .ok (.iload_n 1, 1) := by decide +kernel
theorem dX5_itemAt_1 : decode cX5_itemAt 1 = .ok (.ifCond .lt 29, 3) := by decide +kernel
theorem dX5_itemAt_4 : decode cX5_itemAt 4 = .ok (.iload_n 1, 1) := by decide +kernel
theorem dX5_itemAt_5 : decode cX5_itemAt 5 = .ok (.aload_n 0, 1) := by decide +kernel
theorem dX5_itemAt_6 : decode cX5_itemAt 6 = .ok (.getfield 19, 3) := by decide +kernel
theorem dX5_itemAt_9 : decode cX5_itemAt 9 = .ok (.if_icmp .ge 21, 3) := by decide +kernel
theorem dX5_itemAt_12 : decode cX5_itemAt 12 = .ok (.iload_n 1, 1) := by decide +kernel
theorem dX5_itemAt_13 : decode cX5_itemAt 13 = .ok (.aload_n 0, 1) := by decide +kernel
theorem dX5_itemAt_14 : decode cX5_itemAt 14 = .ok (.getfield 9, 3) := by decide +kernel
theorem dX5_itemAt_17 : decode cX5_itemAt 17 = .ok (.arraylength, 1) := by decide +kernel
theorem dX5_itemAt_18 : decode cX5_itemAt 18 = .ok (.if_icmp .ge 12, 3) := by decide +kernel
theorem dX5_itemAt_21 : decode cX5_itemAt 21 = .ok (.aload_n 0, 1) := by decide +kernel
theorem dX5_itemAt_22 : decode cX5_itemAt 22 = .ok (.getfield 9, 3) := by decide +kernel
theorem dX5_itemAt_25 : decode cX5_itemAt 25 = .ok (.iload_n 1, 1) := by decide +kernel
theorem dX5_itemAt_26 : decode cX5_itemAt 26 = .ok (.iaload, 1) := by decide +kernel
theorem dX5_itemAt_27 : decode cX5_itemAt 27 = .ok (.goto 4, 3) := by decide +kernel
theorem dX5_itemAt_30 : decode cX5_itemAt 30 = .ok (.iconst 0, 1) := by decide +kernel
theorem dX5_itemAt_31 : decode cX5_itemAt 31 = .ok (.ireturn, 1) := by decide +kernel
theorem dX5_put_0 : decode cX5_put 0 = .ok (.iload_n 1, 1) := by decide +kernel
theorem dX5_put_1 : decode cX5_put 1 = .ok (.ifCond .lt 31, 3) := by decide +kernel
theorem dX5_put_4 : decode cX5_put 4 = .ok (.iload_n 1, 1) := by decide +kernel
theorem dX5_put_5 : decode cX5_put 5 = .ok (.aload_n 0, 1) := by decide +kernel
theorem dX5_put_6 : decode cX5_put 6 = .ok (.getfield 19, 3) := by decide +kernel
theorem dX5_put_9 : decode cX5_put 9 = .ok (.if_icmp .ge 23, 3) := by decide +kernel
theorem dX5_put_12 : decode cX5_put 12 = .ok (.iload_n 1, 1) := by decide +kernel
theorem dX5_put_13 : decode cX5_put 13 = .ok (.aload_n 0, 1) := by decide +kernel
theorem dX5_put_14 : decode cX5_put 14 = .ok (.getfield 9, 3) := by decide +kernel
theorem dX5_put_17 : decode cX5_put 17 = .ok (.arraylength, 1) := by decide +kernel
theorem dX5_put_18 : decode cX5_put 18 = .ok (.if_icmp .ge 14, 3) := by decide +kernel
theorem dX5_put_21 : decode cX5_put 21 = .ok (.aload_n 0, 1) := by decide +kernel
theorem dX5_put_22 : decode cX5_put 22 = .ok (.getfield 9, 3) := by decide +kernel
theorem dX5_put_25 : decode cX5_put 25 = .ok (.iload_n 1, 1) := by decide +kernel
theorem dX5_put_26 : decode cX5_put 26 = .ok (.aload_n 0, 1) := by decide +kernel
theorem dX5_put_27 : decode cX5_put 27 = .ok (.iload_n 2, 1) := by decide +kernel
theorem dX5_put_28 : decode cX5_put 28 = .ok (.invokevirtual 31, 3) := by decide +kernel
theorem dX5_put_31 : decode cX5_put 31 = .ok (.iastore, 1) := by decide +kernel
theorem dX5_put_32 : decode cX5_put 32 = .ok (.return_, 1) := by decide +kernel
theorem dX5_cut_0 : decode cX5_cut 0 = .ok (.aload_n 0, 1) := by decide +kernel
theorem dX5_cut_1 : decode cX5_cut 1 = .ok (.getfield 15, 3) := by decide +kernel
theorem dX5_cut_4 : decode cX5_cut 4 = .ok (.ifCond .ne 6, 3) := by decide +kernel
theorem dX5_cut_7 : decode cX5_cut 7 = .ok (.iload_n 1, 1) := by decide +kernel
theorem dX5_cut_8 : decode cX5_cut 8 = .ok (.i2b, 1) := by decide +kernel
theorem dX5_cut_9 : decode cX5_cut 9 = .ok (.ireturn, 1) := by decide +kernel
theorem dX5_cut_10 : decode cX5_cut 10 = .ok (.aload_n 0, 1) := by decide +kernel
theorem dX5_cut_11 : decode cX5_cut 11 = .ok (.getfield 15, 3) := by decide +kernel
theorem dX5_cut_14 : decode cX5_cut 14 = .ok (.iconst 1, 1) := by decide +kernel
theorem dX5_cut_15 : decode cX5_cut 15 = .ok (.if_icmp .ne 8, 3) := by decide +kernel
theorem dX5_cut_18 : decode cX5_cut 18 = .ok (.iload_n 1, 1) := by decide +kernel
theorem dX5_cut_19 : decode cX5_cut 19 = .ok (.i2s, 1) := by decide +kernel
theorem dX5_cut_20 : decode cX5_cut 20 = .ok (.goto 4, 3) := by decide +kernel
theorem dX5_cut_23 : decode cX5_cut 23 = .ok (.iload_n 1, 1) := by decide +kernel
theorem dX5_cut_24 : decode cX5_cut 24 = .ok (.ireturn, 1) := by decide +kernel
theorem dX5_takeOver_0 : decode cX5_takeOver 0 = .ok (.aload_n 1, 1) := by decide +kernel
theorem dX5_takeOver_1 : decode cX5_takeOver 1 = .ok (.iload_n 2, 1) := by decide +kernel
theorem dX5_takeOver_2 : decode cX5_takeOver 2 = .ok (.iload 4, 2) := by decide +kernel
theorem dX5_takeOver_4 : decode cX5_takeOver 4 = .ok (.invokevirtual 35, 3) := by decide +kernel
theorem dX5_takeOver_7 : decode cX5_takeOver 7 = .ok (.ifCond .eq 28, 3) := by decide +kernel
theorem dX5_takeOver_10 : decode cX5_takeOver 10 = .ok (.aload_n 0, 1) := by decide +kernel
theorem dX5_takeOver_11 : decode cX5_takeOver 11 = .ok (.iload_n 3, 1) := by decide +kernel
theorem dX5_takeOver_12 : decode cX5_takeOver 12 = .ok (.iload 4, 2) := by decide +kernel
theorem dX5_takeOver_14 : decode cX5_takeOver 14 = .ok (.invokevirtual 35, 3) := by decide +kernel
theorem dX5_takeOver_17 : decode cX5_takeOver 17 = .ok (.ifCond .eq 18, 3) := by decide +kernel
theorem dX5_takeOver_20 : decode cX5_takeOver 20 = .ok (.aload_n 1, 1) := by decide +kernel
theorem dX5_takeOver_21 : decode cX5_takeOver 21 = .ok (.getfield 9, 3) := by decide +kernel
theorem dX5_takeOver_24 : decode cX5_takeOver 24 = .ok (.iload_n 2, 1) := by decide +kernel
theorem dX5_takeOver_25 : decode cX5_takeOver 25 = .ok (.aload_n 0, 1) := by decide +kernel
theorem dX5_takeOver_26 : decode cX5_takeOver 26 = .ok (.getfield 9, 3) := by decide +kernel
theorem dX5_takeOver_29 : decode cX5_takeOver 29 = .ok (.iload_n 3, 1) := by decide +kernel
theorem dX5_takeOver_30 : decode cX5_takeOver 30 = .ok (.iload 4, 2) := by decide +kernel
theorem dX5_takeOver_32 : decode cX5_takeOver 32 = .ok (.invokestatic 39, 3) := by decide +kernel
theorem dX5_takeOver_35 : decode cX5_takeOver 35 = .ok (.return_, 1) := by decide +kernel
theorem dX6_init_0 : decode cX6_init 0 = .ok (.aload_n 0, 1) := by decide +kernel
theorem dX6_init_1 : decode cX6_init 1 = .ok (.invokespecial 3, 3) := by decide +kernel
theorem dX6_init_4 : decode cX6_init 4 = .ok (.aload_n 0, 1) := by decide +kernel
theorem dX6_init_5 : decode cX6_init 5 = .ok (.bipush 16, 2) := by decide +kernel
theorem dX6_init_7 : decode cX6_init 7 = .ok (.newarray .int, 2) := by decide +kernel
theorem dX6_init_9 : decode cX6_init 9 = .ok (.putfield 9, 3) := by decide +kernel
theorem dX6_init_12 : decode cX6_init 12 = .ok (.aload_n 0, 1) := by decide +kernel
theorem dX6_init_13 : decode cX6_init 13 = .ok (.bipush 16, 2) := by decide +kernel
theorem dX6_init_15 : decode cX6_init 15 = .ok (.newarray .boolean, 2) := by decide +kernel
theorem dX6_init_17 : decode cX6_init 17 = .ok (.putfield 15, 3) := by decide +kernel
theorem dX6_init_20 : decode cX6_init 20 = .ok (.aload_n 0, 1) := by decide +kernel
theorem dX6_init_21 : decode cX6_init 21 = .ok (.iconst 0, 1) := by decide +kernel
theorem dX6_init_22 : decode cX6_init 22 = .ok (.putfield 19, 3) := by decide +kernel
theorem dX6_init_25 : decode cX6_init 25 = .ok (.aload_n 0, 1) := by decide +kernel
theorem dX6_init_26 : decode cX6_init 26 = .ok (.iconst 0, 1) := by decide +kernel
theorem dX6_init_27 : decode cX6_init 27 = .ok (.putfield 23, 3) := by decide +kernel
theorem dX6_init_30 : decode cX6_init 30 = .ok (.aload_n 0, 1) := by decide +kernel
theorem dX6_init_31 : decode cX6_init 31 = .ok (.iconst (-1), 1) := by decide +kernel
theorem dX6_init_32 : decode cX6_init 32 = .ok (.putfield 26, 3) := by decide +kernel
theorem dX6_init_35 : decode cX6_init 35 = .ok (.return_, 1) := by decide +kernel
theorem dX6_load_0 : decode cX6_load 0 = .ok (.aload_n 0, 1) := by decide +kernel
theorem dX6_load_1 : decode cX6_load 1 = .ok (.iconst 0, 1) := by decide +kernel
theorem dX6_load_2 : decode cX6_load 2 = .ok (.putfield 19, 3) := by decide +kernel
theorem dX6_load_5 : decode cX6_load 5 = .ok (.aload_n 0, 1) := by decide +kernel
theorem dX6_load_6 : decode cX6_load 6 = .ok (.iconst 0, 1) := by decide +kernel
theorem dX6_load_7 : decode cX6_load 7 = .ok (.putfield 23, 3) := by decide +kernel
theorem dX6_load_10 : decode cX6_load 10 = .ok (.aload_n 0, 1) := by decide +kernel
theorem dX6_load_11 : decode cX6_load 11 = .ok (.iconst (-1), 1) := by decide +kernel
theorem dX6_load_12 : decode cX6_load 12 = .ok (.putfield 26, 3) := by decide +kernel
theorem dX6_load_15 : decode cX6_load 15 = .ok (.iconst 0, 1) := by decide +kernel
theorem dX6_load_16 : decode cX6_load 16 = .ok (.istore_n 2, 1) := by decide +kernel
theorem dX6_load_17 : decode cX6_load 17 = .ok (.iload_n 2, 1) := by decide +kernel
theorem dX6_load_18 : decode cX6_load 18 = .ok (.aload_n 1, 1) := by decide +kernel
theorem dX6_load_19 : decode cX6_load 19 = .ok (.invokevirtual 29, 3) := by decide +kernel
theorem dX6_load_22 : decode cX6_load 22 = .ok (.if_icmp .ge 34, 3) := by decide +kernel
theorem dX6_load_25 : decode cX6_load 25 = .ok (.aload_n 0, 1) := by decide +kernel
theorem dX6_load_26 : decode cX6_load 26 = .ok (.getfield 26, 3) := by decide +kernel
theorem dX6_load_29 : decode cX6_load 29 = .ok (.iconst (-1), 1) := by decide +kernel
theorem dX6_load_30 : decode cX6_load 30 = .ok (.if_icmp .ne 26, 3) := by decide +kernel
theorem dX6_load_33 : decode cX6_load 33 = .ok (.aload_n 0, 1) := by decide +kernel
theorem dX6_load_34 : decode cX6_load 34 = .ok (.aload_n 1, 1) := by decide +kernel
theorem dX6_load_35 : decode cX6_load 35 = .ok (.iload_n 2, 1) := by decide +kernel
theorem dX6_load_36 : decode cX6_load 36 = .ok (.invokevirtual 34, 3) := by decide +kernel
theorem dX6_load_39 : decode cX6_load 39 = .ok (.invokevirtual 38, 3) := by decide +kernel
theorem dX6_load_42 : decode cX6_load 42 = .ok (.ifCond .ne 8, 3) := by decide +kernel
theorem dX6_load_45 : decode cX6_load 45 = .ok (.aload_n 0, 1) := by decide +kernel
theorem dX6_load_46 : decode cX6_load 46 = .ok (.iload_n 2, 1) := by decide +kernel
theorem dX6_load_47 : decode cX6_load 47 = .ok (.putfield 26, 3) := by decide +kernel
theorem dX6_load_50 : decode cX6_load 50 = .ok (.iinc 2 1, 3) := by decide +kernel
theorem dX6_load_53 : decode cX6_load 53 = .ok (.goto (-36), 3) := by decide +kernel
theorem dX6_load_56 : decode cX6_load 56 = .ok (.aload_n 0, 1) := by decide +kernel
theorem dX6_load_57 : decode cX6_load 57 = .ok (.getfield 26, 3) := by decide +kernel
theorem dX6_load_60 : decode cX6_load 60 = .ok (.iconst (-1), 1) := by decide +kernel
theorem dX6_load_61 : decode cX6_load 61 = .ok (.if_icmp .eq 13, 3) := by decide +kernel
theorem dX6_load_64 : decode cX6_load 64 = .ok (.aload_n 0, 1) := by decide +kernel
theorem dX6_load_65 : decode cX6_load 65 = .ok (.iconst 0, 1) := by decide +kernel
theorem dX6_load_66 : decode cX6_load 66 = .ok (.putfield 19, 3) := by decide +kernel
theorem dX6_load_69 : decode cX6_load 69 = .ok (.aload_n 0, 1) := by decide +kernel
theorem dX6_load_70 : decode cX6_load 70 = .ok (.iconst 0, 1) := by decide +kernel
theorem dX6_load_71 : decode cX6_load 71 = .ok (.putfield 23, 3) := by decide +kernel
theorem dX6_load_74 : decode cX6_load 74 = .ok (.return_, 1) := by decide +kernel
theorem dX6_takes_0 : decode cX6_takes 0 = .ok (.iload_n 1, 1) := by decide +kernel
theorem dX6_takes_1 : decode cX6_takes 1 = .ok (.bipush 98, 2) := by decide +kernel
theorem dX6_takes_3 : decode cX6_takes 3 = .ok (.if_icmp .ne 8, 3) := by decide +kernel
theorem dX6_takes_6 : decode cX6_takes 6 = .ok (.aload_n 0, 1) := by decide +kernel
theorem dX6_takes_7 : decode cX6_takes 7 = .ok (.invokevirtual 42, 3) := by decide +kernel
theorem dX6_takes_10 : decode cX6_takes 10 = .ok (.ireturn, 1) := by decide +kernel
theorem dX6_takes_11 : decode cX6_takes 11 = .ok (.iload_n 1, 1) := by decide +kernel
theorem dX6_takes_12 : decode cX6_takes 12 = .ok (.bipush 48, 2) := by decide +kernel
theorem dX6_takes_14 : decode cX6_takes 14 = .ok (.if_icmp .lt 25, 3) := by decide +kernel
theorem dX6_takes_17 : decode cX6_takes 17 = .ok (.iload_n 1, 1) := by decide +kernel
theorem dX6_takes_18 : decode cX6_takes 18 = .ok (.bipush 57, 2) := by decide +kernel
theorem dX6_takes_20 : decode cX6_takes 20 = .ok (.if_icmp .gt 19, 3) := by decide +kernel
theorem dX6_takes_23 : decode cX6_takes 23 = .ok (.aload_n 0, 1) := by decide +kernel
theorem dX6_takes_24 : decode cX6_takes 24 = .ok (.getfield 19, 3) := by decide +kernel
theorem dX6_takes_27 : decode cX6_takes 27 = .ok (.ifCond .lt 12, 3) := by decide +kernel
theorem dX6_takes_30 : decode cX6_takes 30 = .ok (.aload_n 0, 1) := by decide +kernel
theorem dX6_takes_31 : decode cX6_takes 31 = .ok (.getfield 19, 3) := by decide +kernel
theorem dX6_takes_34 : decode cX6_takes 34 = .ok (.bipush 16, 2) := by decide +kernel
theorem dX6_takes_36 : decode cX6_takes 36 = .ok (.if_icmp .lt 5, 3) := by decide +kernel
theorem dX6_takes_39 : decode cX6_takes 39 = .ok (.iconst 0, 1) := by decide +kernel
theorem dX6_takes_40 : decode cX6_takes 40 = .ok (.ireturn, 1) := by decide +kernel
theorem dX6_takes_41 : decode cX6_takes 41 = .ok (.aload_n 0, 1) := by decide +kernel
theorem dX6_takes_42 : decode cX6_takes 42 = .ok (.getfield 9, 3) := by decide +kernel
theorem dX6_takes_45 : decode cX6_takes 45 = .ok (.aload_n 0, 1) := by decide +kernel
theorem dX6_takes_46 : decode cX6_takes 46 = .ok (.getfield 19, 3) := by decide +kernel
theorem dX6_takes_49 : decode cX6_takes 49 = .ok (.iload_n 1, 1) := by decide +kernel
theorem dX6_takes_50 : decode cX6_takes 50 = .ok (.bipush 48, 2) := by decide +kernel
theorem dX6_takes_52 : decode cX6_takes 52 = .ok (.isub, 1) := by decide +kernel
theorem dX6_takes_53 : decode cX6_takes 53 = .ok (.iastore, 1) := by decide +kernel
theorem dX6_takes_54 : decode cX6_takes 54 = .ok (.aload_n 0, 1) := by decide +kernel
theorem dX6_takes_55 : decode cX6_takes 55 = .ok (.getfield 15, 3) := by decide +kernel
theorem dX6_takes_58 : decode cX6_takes 58 = .ok (.aload_n 0, 1) := by decide +kernel
theorem dX6_takes_59 : decode cX6_takes 59 = .ok (.getfield 19, 3) := by decide +kernel
theorem dX6_takes_62 : decode cX6_takes 62 = .ok (.iconst 0, 1) := by decide +kernel
theorem dX6_takes_63 : decode cX6_takes 63 = .ok (.bastore, 1) := by decide +kernel
theorem dX6_takes_64 : decode cX6_takes 64 = .ok (.aload_n 0, 1) := by decide +kernel
theorem dX6_takes_65 : decode cX6_takes 65 = .ok (.dup, 1) := by decide +kernel
theorem dX6_takes_66 : decode cX6_takes 66 = .ok (.getfield 19, 3) := by decide +kernel
theorem dX6_takes_69 : decode cX6_takes 69 = .ok (.iconst 1, 1) := by decide +kernel
theorem dX6_takes_70 : decode cX6_takes 70 = .ok (.iadd, 1) := by decide +kernel
theorem dX6_takes_71 : decode cX6_takes 71 = .ok (.putfield 19, 3) := by decide +kernel
theorem dX6_takes_74 : decode cX6_takes 74 = .ok (.iconst 1, 1) := by decide +kernel
theorem dX6_takes_75 : decode cX6_takes 75 = .ok (.ireturn, 1) := by decide +kernel
theorem dX6_bendsLast_0 : decode cX6_bendsLast 0 = .ok (.aload_n 0, 1) := by decide +kernel
theorem dX6_bendsLast_1 : decode cX6_bendsLast 1 = .ok (.getfield 19, 3) := by decide +kernel
theorem dX6_bendsLast_4 : decode cX6_bendsLast 4 = .ok (.iconst 1, 1) := by decide +kernel
theorem dX6_bendsLast_5 : decode cX6_bendsLast 5 = .ok (.isub, 1) := by decide +kernel
theorem dX6_bendsLast_6 : decode cX6_bendsLast 6 = .ok (.istore_n 1, 1) := by decide +kernel
theorem dX6_bendsLast_7 : decode cX6_bendsLast 7 = .ok (.iload_n 1, 1) := by decide +kernel
theorem dX6_bendsLast_8 : decode cX6_bendsLast 8 = .ok (.ifCond .lt 18, 3) := by decide +kernel
theorem dX6_bendsLast_11 : decode cX6_bendsLast 11 = .ok (.iload_n 1, 1) := by decide +kernel
theorem dX6_bendsLast_12 : decode cX6_bendsLast 12 = .ok (.bipush 16, 2) := by decide +kernel
theorem dX6_bendsLast_14 : decode cX6_bendsLast 14 = .ok (.if_icmp .ge 12, 3) := by decide +kernel
theorem dX6_bendsLast_17 : decode cX6_bendsLast 17 = .ok (.aload_n 0, 1) := by decide +kernel
theorem dX6_bendsLast_18 : decode cX6_bendsLast 18 = .ok (.getfield 15, 3) := by decide +kernel
theorem dX6_bendsLast_21 : decode cX6_bendsLast 21 = .ok (.iload_n 1, 1) := by decide +kernel
theorem dX6_bendsLast_22 : decode cX6_bendsLast 22 = .ok (.baload, 1) := by decide +kernel
theorem dX6_bendsLast_23 : decode cX6_bendsLast 23 = .ok (.ifCond .eq 5, 3) := by decide +kernel
theorem dX6_bendsLast_26 : decode cX6_bendsLast 26 = .ok (.iconst 0, 1) := by decide +kernel
theorem dX6_bendsLast_27 : decode cX6_bendsLast 27 = .ok (.ireturn, 1) := by decide +kernel
theorem dX6_bendsLast_28 : decode cX6_bendsLast 28 = .ok (.aload_n 0, 1) := by decide +kernel
theorem dX6_bendsLast_29 : decode cX6_bendsLast 29 = .ok (.getfield 15, 3) := by decide +kernel
theorem dX6_bendsLast_32 : decode cX6_bendsLast 32 = .ok (.iload_n 1, 1) := by decide +kernel
theorem dX6_bendsLast_33 : decode cX6_bendsLast 33 = .ok (.iconst 1, 1) := by decide +kernel
theorem dX6_bendsLast_34 : decode cX6_bendsLast 34 = .ok (.bastore, 1) := by decide +kernel
theorem dX6_bendsLast_35 : decode cX6_bendsLast 35 = .ok (.aload_n 0, 1) := by decide +kernel
theorem dX6_bendsLast_36 : decode cX6_bendsLast 36 = .ok (.dup, 1) := by decide +kernel
theorem dX6_bendsLast_37 : decode cX6_bendsLast 37 = .ok (.getfield 23, 3) := by decide +kernel
theorem dX6_bendsLast_40 : decode cX6_bendsLast 40 = .ok (.iconst 1, 1) := by decide +kernel
theorem dX6_bendsLast_41 : decode cX6_bendsLast 41 = .ok (.iadd, 1) := by decide +kernel
theorem dX6_bendsLast_42 : decode cX6_bendsLast 42 = .ok (.putfield 23, 3) := by decide +kernel
theorem dX6_bendsLast_45 : decode cX6_bendsLast 45 = .ok (.iconst 1, 1) := by decide +kernel
theorem dX6_bendsLast_46 : decode cX6_bendsLast 46 = .ok (.ireturn, 1) := by decide +kernel
theorem dX6_firstFault_0 : decode cX6_firstFault 0 = .ok (.aload_n 0, 1) := by decide +kernel
theorem dX6_firstFault_1 : decode cX6_firstFault 1 = .ok (.getfield 26, 3) := by decide +kernel
theorem dX6_firstFault_4 : decode cX6_firstFault 4 = .ok (.ireturn, 1) := by decide +kernel
theorem dX6_size_0 : decode cX6_size 0 = .ok (.aload_n 0, 1) := by decide +kernel
theorem dX6_size_1 : decode cX6_size 1 = .ok (.getfield 19, 3) := by decide +kernel
theorem dX6_size_4 : decode cX6_size 4 = .ok (.ireturn, 1) := by decide +kernel
theorem dX6_bends_0 : decode cX6_bends 0 = .ok (.aload_n 0, 1) := by decide +kernel
theorem dX6_bends_1 : decode cX6_bends 1 = .ok (.getfield 23, 3) := by decide +kernel
theorem dX6_bends_4 : decode cX6_bends 4 = .ok (.ireturn, 1) := by decide +kernel
theorem dX6_steepAt_0 : decode cX6_steepAt 0 = .ok (.iload_n 1, 1) := by decide +kernel
theorem dX6_steepAt_1 : decode cX6_steepAt 1 = .ok (.aload_n 0, 1) := by decide +kernel
theorem dX6_steepAt_2 : decode cX6_steepAt 2 = .ok (.getfield 19, 3) := by decide +kernel
theorem dX6_steepAt_5 : decode cX6_steepAt 5 = .ok (.iconst 1, 1) := by decide +kernel
theorem dX6_steepAt_6 : decode cX6_steepAt 6 = .ok (.isub, 1) := by decide +kernel
theorem dX6_steepAt_7 : decode cX6_steepAt 7 = .ok (.invokestatic 46, 3) := by decide +kernel
theorem dX6_steepAt_10 : decode cX6_steepAt 10 = .ok (.istore_n 2, 1) := by decide +kernel
theorem dX6_steepAt_11 : decode cX6_steepAt 11 = .ok (.iload_n 2, 1) := by decide +kernel
theorem dX6_steepAt_12 : decode cX6_steepAt 12 = .ok (.ifCond .lt 21, 3) := by decide +kernel
theorem dX6_steepAt_15 : decode cX6_steepAt 15 = .ok (.iload_n 2, 1) := by decide +kernel
theorem dX6_steepAt_16 : decode cX6_steepAt 16 = .ok (.aload_n 0, 1) := by decide +kernel
theorem dX6_steepAt_17 : decode cX6_steepAt 17 = .ok (.getfield 9, 3) := by decide +kernel
theorem dX6_steepAt_20 : decode cX6_steepAt 20 = .ok (.arraylength, 1) := by decide +kernel
theorem dX6_steepAt_21 : decode cX6_steepAt 21 = .ok (.if_icmp .ge 12, 3) := by decide +kernel
theorem dX6_steepAt_24 : decode cX6_steepAt 24 = .ok (.aload_n 0, 1) := by decide +kernel
theorem dX6_steepAt_25 : decode cX6_steepAt 25 = .ok (.getfield 9, 3) := by decide +kernel
theorem dX6_steepAt_28 : decode cX6_steepAt 28 = .ok (.iload_n 2, 1) := by decide +kernel
theorem dX6_steepAt_29 : decode cX6_steepAt 29 = .ok (.iaload, 1) := by decide +kernel
theorem dX6_steepAt_30 : decode cX6_steepAt 30 = .ok (.goto 4, 3) := by decide +kernel
theorem dX6_steepAt_33 : decode cX6_steepAt 33 = .ok (.iconst 0, 1) := by decide +kernel
theorem dX6_steepAt_34 : decode cX6_steepAt 34 = .ok (.ireturn, 1) := by decide +kernel
theorem dX6_bendsAt_0 : decode cX6_bendsAt 0 = .ok (.iload_n 1, 1) := by decide +kernel
theorem dX6_bendsAt_1 : decode cX6_bendsAt 1 = .ok (.ifCond .lt 33, 3) := by decide +kernel
theorem dX6_bendsAt_4 : decode cX6_bendsAt 4 = .ok (.iload_n 1, 1) := by decide +kernel
theorem dX6_bendsAt_5 : decode cX6_bendsAt 5 = .ok (.aload_n 0, 1) := by decide +kernel
theorem dX6_bendsAt_6 : decode cX6_bendsAt 6 = .ok (.getfield 19, 3) := by decide +kernel
theorem dX6_bendsAt_9 : decode cX6_bendsAt 9 = .ok (.if_icmp .ge 25, 3) := by decide +kernel
theorem dX6_bendsAt_12 : decode cX6_bendsAt 12 = .ok (.iload_n 1, 1) := by decide +kernel
theorem dX6_bendsAt_13 : decode cX6_bendsAt 13 = .ok (.aload_n 0, 1) := by decide +kernel
theorem dX6_bendsAt_14 : decode cX6_bendsAt 14 = .ok (.getfield 15, 3) := by decide +kernel
theorem dX6_bendsAt_17 : decode cX6_bendsAt 17 = .ok (.arraylength, 1) := by decide +kernel
theorem dX6_bendsAt_18 : decode cX6_bendsAt 18 = .ok (.if_icmp .ge 16, 3) := by decide +kernel
theorem dX6_bendsAt_21 : decode cX6_bendsAt 21 = .ok (.aload_n 0, 1) := by decide +kernel
theorem dX6_bendsAt_22 : decode cX6_bendsAt 22 = .ok (.getfield 15, 3) := by decide +kernel
theorem dX6_bendsAt_25 : decode cX6_bendsAt 25 = .ok (.iload_n 1, 1) := by decide +kernel
theorem dX6_bendsAt_26 : decode cX6_bendsAt 26 = .ok (.baload, 1) := by decide +kernel
theorem dX6_bendsAt_27 : decode cX6_bendsAt 27 = .ok (.ifCond .eq 7, 3) := by decide +kernel
theorem dX6_bendsAt_30 : decode cX6_bendsAt 30 = .ok (.iconst 1, 1) := by decide +kernel
theorem dX6_bendsAt_31 : decode cX6_bendsAt 31 = .ok (.goto 4, 3) := by decide +kernel
theorem dX6_bendsAt_34 : decode cX6_bendsAt 34 = .ok (.iconst 0, 1) := by decide +kernel
theorem dX6_bendsAt_35 : decode cX6_bendsAt 35 = .ok (.ireturn, 1) := by decide +kernel
theorem dX7_init_0 : decode cX7_init 0 = .ok (.aload_n 0, 1) := by decide +kernel
theorem dX7_init_1 : decode cX7_init 1 = .ok (.invokespecial 3, 3) := by decide +kernel
theorem dX7_init_4 : decode cX7_init 4 = .ok (.aload_n 0, 1) := by decide +kernel
theorem dX7_init_5 : decode cX7_init 5 = .ok (.bipush 32, 2) := by decide +kernel
theorem dX7_init_7 : decode cX7_init 7 = .ok (.newarray .int, 2) := by decide +kernel
theorem dX7_init_9 : decode cX7_init 9 = .ok (.putfield 9, 3) := by decide +kernel
theorem dX7_init_12 : decode cX7_init 12 = .ok (.aload_n 0, 1) := by decide +kernel
theorem dX7_init_13 : decode cX7_init 13 = .ok (.iconst 0, 1) := by decide +kernel
theorem dX7_init_14 : decode cX7_init 14 = .ok (.putfield 15, 3) := by decide +kernel
theorem dX7_init_17 : decode cX7_init 17 = .ok (.aload_n 0, 1) := by decide +kernel
theorem dX7_init_18 : decode cX7_init 18 = .ok (.iload_n 1, 1) := by decide +kernel
theorem dX7_init_19 : decode cX7_init 19 = .ok (.putfield 19, 3) := by decide +kernel
theorem dX7_init_22 : decode cX7_init 22 = .ok (.return_, 1) := by decide +kernel
theorem dX7_size_0 : decode cX7_size 0 = .ok (.aload_n 0, 1) := by decide +kernel
theorem dX7_size_1 : decode cX7_size 1 = .ok (.getfield 15, 3) := by decide +kernel
theorem dX7_size_4 : decode cX7_size 4 = .ok (.ireturn, 1) := by decide +kernel
theorem dX7_isFull_0 : decode cX7_isFull 0 = .ok (.aload_n 0, 1) := by decide +kernel
theorem dX7_isFull_1 : decode cX7_isFull 1 = .ok (.getfield 15, 3) := by decide +kernel
theorem dX7_isFull_4 : decode cX7_isFull 4 = .ok (.aload_n 0, 1) := by decide +kernel
theorem dX7_isFull_5 : decode cX7_isFull 5 = .ok (.getfield 19, 3) := by decide +kernel
theorem dX7_isFull_8 : decode cX7_isFull 8 = .ok (.if_icmp .ge 15, 3) := by decide +kernel
theorem dX7_isFull_11 : decode cX7_isFull 11 = .ok (.aload_n 0, 1) := by decide +kernel
theorem dX7_isFull_12 : decode cX7_isFull 12 = .ok (.getfield 15, 3) := by decide +kernel
theorem dX7_isFull_15 : decode cX7_isFull 15 = .ok (.aload_n 0, 1) := by decide +kernel
theorem dX7_isFull_16 : decode cX7_isFull 16 = .ok (.getfield 9, 3) := by decide +kernel
theorem dX7_isFull_19 : decode cX7_isFull 19 = .ok (.arraylength, 1) := by decide +kernel
theorem dX7_isFull_20 : decode cX7_isFull 20 = .ok (.if_icmp .lt 7, 3) := by decide +kernel
theorem dX7_isFull_23 : decode cX7_isFull 23 = .ok (.iconst 1, 1) := by decide +kernel
theorem dX7_isFull_24 : decode cX7_isFull 24 = .ok (.goto 4, 3) := by decide +kernel
theorem dX7_isFull_27 : decode cX7_isFull 27 = .ok (.iconst 0, 1) := by decide +kernel
theorem dX7_isFull_28 : decode cX7_isFull 28 = .ok (.ireturn, 1) := by decide +kernel
theorem dX7_byteAt_0 : decode cX7_byteAt 0 = .ok (.iload_n 1, 1) := by decide +kernel
theorem dX7_byteAt_1 : decode cX7_byteAt 1 = .ok (.ifCond .lt 29, 3) := by decide +kernel
theorem dX7_byteAt_4 : decode cX7_byteAt 4 = .ok (.iload_n 1, 1) := by decide +kernel
theorem dX7_byteAt_5 : decode cX7_byteAt 5 = .ok (.aload_n 0, 1) := by decide +kernel
theorem dX7_byteAt_6 : decode cX7_byteAt 6 = .ok (.getfield 15, 3) := by decide +kernel
theorem dX7_byteAt_9 : decode cX7_byteAt 9 = .ok (.if_icmp .ge 21, 3) := by decide +kernel
theorem dX7_byteAt_12 : decode cX7_byteAt 12 = .ok (.iload_n 1, 1) := by decide +kernel
theorem dX7_byteAt_13 : decode cX7_byteAt 13 = .ok (.aload_n 0, 1) := by decide +kernel
theorem dX7_byteAt_14 : decode cX7_byteAt 14 = .ok (.getfield 9, 3) := by decide +kernel
theorem dX7_byteAt_17 : decode cX7_byteAt 17 = .ok (.arraylength, 1) := by decide +kernel
theorem dX7_byteAt_18 : decode cX7_byteAt 18 = .ok (.if_icmp .ge 12, 3) := by decide +kernel
theorem dX7_byteAt_21 : decode cX7_byteAt 21 = .ok (.aload_n 0, 1) := by decide +kernel
theorem dX7_byteAt_22 : decode cX7_byteAt 22 = .ok (.getfield 9, 3) := by decide +kernel
theorem dX7_byteAt_25 : decode cX7_byteAt 25 = .ok (.iload_n 1, 1) := by decide +kernel
theorem dX7_byteAt_26 : decode cX7_byteAt 26 = .ok (.iaload, 1) := by decide +kernel
theorem dX7_byteAt_27 : decode cX7_byteAt 27 = .ok (.goto 4, 3) := by decide +kernel
theorem dX7_byteAt_30 : decode cX7_byteAt 30 = .ok (.iconst 0, 1) := by decide +kernel
theorem dX7_byteAt_31 : decode cX7_byteAt 31 = .ok (.ireturn, 1) := by decide +kernel
theorem dX7_append_0 : decode cX7_append 0 = .ok (.aload_n 0, 1) := by decide +kernel
theorem dX7_append_1 : decode cX7_append 1 = .ok (.invokevirtual 22, 3) := by decide +kernel
theorem dX7_append_4 : decode cX7_append 4 = .ok (.ifCond .ne 30, 3) := by decide +kernel
theorem dX7_append_7 : decode cX7_append 7 = .ok (.aload_n 0, 1) := by decide +kernel
theorem dX7_append_8 : decode cX7_append 8 = .ok (.getfield 15, 3) := by decide +kernel
theorem dX7_append_11 : decode cX7_append 11 = .ok (.ifCond .lt 23, 3) := by decide +kernel
theorem dX7_append_14 : decode cX7_append 14 = .ok (.aload_n 0, 1) := by decide +kernel
theorem dX7_append_15 : decode cX7_append 15 = .ok (.getfield 9, 3) := by decide +kernel
theorem dX7_append_18 : decode cX7_append 18 = .ok (.aload_n 0, 1) := by decide +kernel
theorem dX7_append_19 : decode cX7_append 19 = .ok (.getfield 15, 3) := by decide +kernel
theorem dX7_append_22 : decode cX7_append 22 = .ok (.iload_n 1, 1) := by decide +kernel
theorem dX7_append_23 : decode cX7_append 23 = .ok (.iastore, 1) := by decide +kernel
theorem dX7_append_24 : decode cX7_append 24 = .ok (.aload_n 0, 1) := by decide +kernel
theorem dX7_append_25 : decode cX7_append 25 = .ok (.dup, 1) := by decide +kernel
theorem dX7_append_26 : decode cX7_append 26 = .ok (.getfield 15, 3) := by decide +kernel
theorem dX7_append_29 : decode cX7_append 29 = .ok (.iconst 1, 1) := by decide +kernel
theorem dX7_append_30 : decode cX7_append 30 = .ok (.iadd, 1) := by decide +kernel
theorem dX7_append_31 : decode cX7_append 31 = .ok (.putfield 15, 3) := by decide +kernel
theorem dX7_append_34 : decode cX7_append 34 = .ok (.return_, 1) := by decide +kernel
theorem dX7_shorten_0 : decode cX7_shorten 0 = .ok (.aload_n 0, 1) := by decide +kernel
theorem dX7_shorten_1 : decode cX7_shorten 1 = .ok (.iconst 0, 1) := by decide +kernel
theorem dX7_shorten_2 : decode cX7_shorten 2 = .ok (.aload_n 0, 1) := by decide +kernel
theorem dX7_shorten_3 : decode cX7_shorten 3 = .ok (.getfield 15, 3) := by decide +kernel
theorem dX7_shorten_6 : decode cX7_shorten 6 = .ok (.iload_n 1, 1) := by decide +kernel
theorem dX7_shorten_7 : decode cX7_shorten 7 = .ok (.isub, 1) := by decide +kernel
theorem dX7_shorten_8 : decode cX7_shorten 8 = .ok (.invokestatic 26, 3) := by decide +kernel
theorem dX7_shorten_11 : decode cX7_shorten 11 = .ok (.putfield 15, 3) := by decide +kernel
theorem dX7_shorten_14 : decode cX7_shorten 14 = .ok (.return_, 1) := by decide +kernel
