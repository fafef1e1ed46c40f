theorem dX8_init_0 : decode cX8_init 0 = .ok (.aload_n 0, 1) := by decide +kernel
theorem dX8_init_1 : decode cX8_init 1 = .ok (.invokespecial 1, 3) := by decide +kernel
theorem dX8_init_4 : decode cX8_init 4 = .ok (.aload_n 0, 1) := by decide +kernel
theorem dX8_init_5 : decode cX8_init 5 = .ok (.new 7, 3) := by decide +kernel
theorem dX8_init_8 : decode cX8_init 8 = .ok (.dup, 1) := by decide +kernel
theorem dX8_init_9 : decode cX8_init 9 = .ok (.bipush 12, 2) := by decide +kernel
theorem dX8_init_11 : decode cX8_init 11 = .ok (.invokespecial 11, 3) := by decide +kernel
theorem dX8_init_14 : decode cX8_init 14 = .ok (.putfield 14, 3) := by decide +kernel
theorem dX8_init_17 : decode cX8_init 17 = .ok (.aload_n 0, 1) := by decide +kernel
theorem dX8_init_18 : decode cX8_init 18 = .ok (.new 7, 3) := by decide +kernel
theorem dX8_init_21 : decode cX8_init 21 = .ok (.dup, 1) := by decide +kernel
theorem dX8_init_22 : decode cX8_init 22 = .ok (.bipush 32, 2) := by decide +kernel
theorem dX8_init_24 : decode cX8_init 24 = .ok (.invokespecial 11, 3) := by decide +kernel
theorem dX8_init_27 : decode cX8_init 27 = .ok (.putfield 18, 3) := by decide +kernel
theorem dX8_init_30 : decode cX8_init 30 = .ok (.aload_n 0, 1) := by decide +kernel
theorem dX8_init_31 : decode cX8_init 31 = .ok (.new 21, 3) := by decide +kernel
theorem dX8_init_34 : decode cX8_init 34 = .ok (.dup, 1) := by decide +kernel
theorem dX8_init_35 : decode cX8_init 35 = .ok (.invokespecial 23, 3) := by decide +kernel
theorem dX8_init_38 : decode cX8_init 38 = .ok (.putfield 24, 3) := by decide +kernel
theorem dX8_init_41 : decode cX8_init 41 = .ok (.aload_n 0, 1) := by decide +kernel
theorem dX8_init_42 : decode cX8_init 42 = .ok (.new 28, 3) := by decide +kernel
theorem dX8_init_45 : decode cX8_init 45 = .ok (.dup, 1) := by decide +kernel
theorem dX8_init_46 : decode cX8_init 46 = .ok (.invokespecial 30, 3) := by decide +kernel
theorem dX8_init_49 : decode cX8_init 49 = .ok (.putfield 31, 3) := by decide +kernel
theorem dX8_init_52 : decode cX8_init 52 = .ok (.aload_n 0, 1) := by decide +kernel
theorem dX8_init_53 : decode cX8_init 53 = .ok (.new 35, 3) := by decide +kernel
theorem dX8_init_56 : decode cX8_init 56 = .ok (.dup, 1) := by decide +kernel
theorem dX8_init_57 : decode cX8_init 57 = .ok (.getstatic 37, 3) := by decide +kernel
theorem dX8_init_60 : decode cX8_init 60 = .ok (.getstatic 41, 3) := by decide +kernel
theorem dX8_init_63 : decode cX8_init 63 = .ok (.getstatic 44, 3) := by decide +kernel
theorem dX8_init_66 : decode cX8_init 66 = .ok (.invokespecial 47, 3) := by decide +kernel
theorem dX8_init_69 : decode cX8_init 69 = .ok (.putfield 50, 3) := by decide +kernel
theorem dX8_init_72 : decode cX8_init 72 = .ok (.aload_n 0, 1) := by decide +kernel
theorem dX8_init_73 : decode cX8_init 73 = .ok (.new 35, 3) := by decide +kernel
theorem dX8_init_76 : decode cX8_init 76 = .ok (.dup, 1) := by decide +kernel
theorem dX8_init_77 : decode cX8_init 77 = .ok (.getstatic 37, 3) := by decide +kernel
theorem dX8_init_80 : decode cX8_init 80 = .ok (.getstatic 41, 3) := by decide +kernel
theorem dX8_init_83 : decode cX8_init 83 = .ok (.getstatic 44, 3) := by decide +kernel
theorem dX8_init_86 : decode cX8_init 86 = .ok (.invokespecial 47, 3) := by decide +kernel
theorem dX8_init_89 : decode cX8_init 89 = .ok (.putfield 54, 3) := by decide +kernel
theorem dX8_init_92 : decode cX8_init 92 = .ok (.aload_n 0, 1) := by decide +kernel
theorem dX8_init_93 : decode cX8_init 93 = .ok (.new 35, 3) := by decide +kernel
theorem dX8_init_96 : decode cX8_init 96 = .ok (.dup, 1) := by decide +kernel
theorem dX8_init_97 : decode cX8_init 97 = .ok (.getstatic 57, 3) := by decide +kernel
theorem dX8_init_100 : decode cX8_init 100 = .ok (.getstatic 60, 3) := by decide +kernel
theorem dX8_init_103 : decode cX8_init 103 = .ok (.getstatic 63, 3) := by decide +kernel
theorem dX8_init_106 : decode cX8_init 106 = .ok (.invokespecial 47, 3) := by decide +kernel
theorem dX8_init_109 : decode cX8_init 109 = .ok (.putfield 66, 3) := by decide +kernel
theorem dX8_init_112 : decode cX8_init 112 = .ok (.aload_n 0, 1) := by decide +kernel
theorem dX8_init_113 : decode cX8_init 113 = .ok (.new 69, 3) := by decide +kernel
theorem dX8_init_116 : decode cX8_init 116 = .ok (.dup, 1) := by decide +kernel
theorem dX8_init_117 : decode cX8_init 117 = .ok (.invokespecial 71, 3) := by decide +kernel
theorem dX8_init_120 : decode cX8_init 120 = .ok (.putfield 72, 3) := by decide +kernel
theorem dX8_init_123 : decode cX8_init 123 = .ok (.aload_n 0, 1) := by decide +kernel
theorem dX8_init_124 : decode cX8_init 124 = .ok (.new 76, 3) := by decide +kernel
theorem dX8_init_127 : decode cX8_init 127 = .ok (.dup, 1) := by decide +kernel
theorem dX8_init_128 : decode cX8_init 128 = .ok (.invokespecial 78, 3) := by decide +kernel
theorem dX8_init_131 : decode cX8_init 131 = .ok (.putfield 79, 3) := by decide +kernel
theorem dX8_init_134 : decode cX8_init 134 = .ok (.aload_n 0, 1) := by decide +kernel
theorem dX8_init_135 : decode cX8_init 135 = .ok (.new 83, 3) := by decide +kernel
theorem dX8_init_138 : decode cX8_init 138 = .ok (.dup, 1) := by decide +kernel
theorem dX8_init_139 : decode cX8_init 139 = .ok (.invokespecial 85, 3) := by decide +kernel
theorem dX8_init_142 : decode cX8_init 142 = .ok (.putfield 86, 3) := by decide +kernel
theorem dX8_init_145 : decode cX8_init 145 = .ok (.aload_n 0, 1) := by decide +kernel
theorem dX8_init_146 : decode cX8_init 146 = .ok (.iconst 4, 1) := by decide +kernel
theorem dX8_init_147 : decode cX8_init 147 = .ok (.anewarray 90, 3) := by decide +kernel
theorem dX8_init_150 : decode cX8_init 150 = .ok (.putfield 92, 3) := by decide +kernel
theorem dX8_init_153 : decode cX8_init 153 = .ok (.iconst 0, 1) := by decide +kernel
theorem dX8_init_154 : decode cX8_init 154 = .ok (.istore_n 1, 1) := by decide +kernel
theorem dX8_init_155 : decode cX8_init 155 = .ok (.iload_n 1, 1) := by decide +kernel
theorem dX8_init_156 : decode cX8_init 156 = .ok (.aload_n 0, 1) := by decide +kernel
theorem dX8_init_157 : decode cX8_init 157 = .ok (.getfield 92, 3) := by decide +kernel
theorem dX8_init_160 : decode cX8_init 160 = .ok (.arraylength, 1) := by decide +kernel
theorem dX8_init_161 : decode cX8_init 161 = .ok (.if_icmp .ge 22, 3) := by decide +kernel
theorem dX8_init_164 : decode cX8_init 164 = .ok (.aload_n 0, 1) := by decide +kernel
theorem dX8_init_165 : decode cX8_init 165 = .ok (.getfield 92, 3) := by decide +kernel
theorem dX8_init_168 : decode cX8_init 168 = .ok (.iload_n 1, 1) := by decide +kernel
theorem dX8_init_169 : decode cX8_init 169 = .ok (.new 90, 3) := by decide +kernel
theorem dX8_init_172 : decode cX8_init 172 = .ok (.dup, 1) := by decide +kernel
theorem dX8_init_173 : decode cX8_init 173 = .ok (.invokespecial 96, 3) := by decide +kernel
theorem dX8_init_176 : decode cX8_init 176 = .ok (.aastore, 1) := by decide +kernel
theorem dX8_init_177 : decode cX8_init 177 = .ok (.iinc 1 1, 3) := by decide +kernel
theorem dX8_init_180 : decode cX8_init 180 = .ok (.goto (-25), 3) := by decide +kernel
theorem dX8_init_183 : decode cX8_init 183 = .ok (.aload_n 0, 1) := by decide +kernel
theorem dX8_init_184 : decode cX8_init 184 = .ok (.iconst 0, 1) := by decide +kernel
theorem dX8_init_185 : decode cX8_init 185 = .ok (.putfield 97, 3) := by decide +kernel
theorem dX8_init_188 : decode cX8_init 188 = .ok (.aload_n 0, 1) := by decide +kernel
theorem dX8_init_189 : decode cX8_init 189 = .ok (.invokevirtual 101, 3) := by decide +kernel
theorem dX8_init_192 : decode cX8_init 192 = .ok (.return_, 1) := by decide +kernel
theorem dX8_type_0 : decode cX8_type 0 = .ok (.aload_n 0, 1) := by decide +kernel
theorem dX8_type_1 : decode cX8_type 1 = .ok (.iload_n 1, 1) := by decide +kernel
theorem dX8_type_2 : decode cX8_type 2 = .ok (.invokevirtual 104, 3) := by decide +kernel
theorem dX8_type_5 : decode cX8_type 5 = .ok (.astore_n 3, 1) := by decide +kernel
theorem dX8_type_6 : decode cX8_type 6 = .ok (.aload_n 3, 1) := by decide +kernel
theorem dX8_type_7 : decode cX8_type 7 = .ok (.ifnull 14, 3) := by decide +kernel
theorem dX8_type_10 : decode cX8_type 10 = .ok (.iload_n 2, 1) := by decide +kernel
theorem dX8_type_11 : decode cX8_type 11 = .ok (.ifCond .lt 10, 3) := by decide +kernel
theorem dX8_type_14 : decode cX8_type 14 = .ok (.iload_n 2, 1) := by decide +kernel
theorem dX8_type_15 : decode cX8_type 15 = .ok (.sipush 255, 3) := by decide +kernel
theorem dX8_type_18 : decode cX8_type 18 = .ok (.if_icmp .le 6, 3) := by decide +kernel
theorem dX8_type_21 : decode cX8_type 21 = .ok (.bipush (-2), 2) := by decide +kernel
theorem dX8_type_23 : decode cX8_type 23 = .ok (.ireturn, 1) := by decide +kernel
theorem dX8_type_24 : decode cX8_type 24 = .ok (.aload_n 3, 1) := by decide +kernel
theorem dX8_type_25 : decode cX8_type 25 = .ok (.invokevirtual 108, 3) := by decide +kernel
theorem dX8_type_28 : decode cX8_type 28 = .ok (.ifCond .eq 6, 3) := by decide +kernel
theorem dX8_type_31 : decode cX8_type 31 = .ok (.bipush (-4), 2) := by decide +kernel
theorem dX8_type_33 : decode cX8_type 33 = .ok (.ireturn, 1) := by decide +kernel
theorem dX8_type_34 : decode cX8_type 34 = .ok (.aload_n 3, 1) := by decide +kernel
theorem dX8_type_35 : decode cX8_type 35 = .ok (.iload_n 2, 1) := by decide +kernel
theorem dX8_type_36 : decode cX8_type 36 = .ok (.invokevirtual 112, 3) := by decide +kernel
theorem dX8_type_39 : decode cX8_type 39 = .ok (.aload_n 0, 1) := by decide +kernel
theorem dX8_type_40 : decode cX8_type 40 = .ok (.invokevirtual 101, 3) := by decide +kernel
theorem dX8_type_43 : decode cX8_type 43 = .ok (.aload_n 3, 1) := by decide +kernel
theorem dX8_type_44 : decode cX8_type 44 = .ok (.invokevirtual 115, 3) := by decide +kernel
theorem dX8_type_47 : decode cX8_type 47 = .ok (.ireturn, 1) := by decide +kernel
theorem dX8_wipe_0 : decode cX8_wipe 0 = .ok (.aload_n 0, 1) := by decide +kernel
theorem dX8_wipe_1 : decode cX8_wipe 1 = .ok (.iload_n 1, 1) := by decide +kernel
theorem dX8_wipe_2 : decode cX8_wipe 2 = .ok (.invokevirtual 104, 3) := by decide +kernel
theorem dX8_wipe_5 : decode cX8_wipe 5 = .ok (.astore_n 2, 1) := by decide +kernel
theorem dX8_wipe_6 : decode cX8_wipe 6 = .ok (.aload_n 2, 1) := by decide +kernel
theorem dX8_wipe_7 : decode cX8_wipe 7 = .ok (.ifnonnull 6, 3) := by decide +kernel
theorem dX8_wipe_10 : decode cX8_wipe 10 = .ok (.bipush (-2), 2) := by decide +kernel
theorem dX8_wipe_12 : decode cX8_wipe 12 = .ok (.ireturn, 1) := by decide +kernel
theorem dX8_wipe_13 : decode cX8_wipe 13 = .ok (.aload_n 2, 1) := by decide +kernel
theorem dX8_wipe_14 : decode cX8_wipe 14 = .ok (.invokevirtual 115, 3) := by decide +kernel
theorem dX8_wipe_17 : decode cX8_wipe 17 = .ok (.istore_n 3, 1) := by decide +kernel
theorem dX8_wipe_18 : decode cX8_wipe 18 = .ok (.aload_n 2, 1) := by decide +kernel
theorem dX8_wipe_19 : decode cX8_wipe 19 = .ok (.iload_n 3, 1) := by decide +kernel
theorem dX8_wipe_20 : decode cX8_wipe 20 = .ok (.invokevirtual 119, 3) := by decide +kernel
theorem dX8_wipe_23 : decode cX8_wipe 23 = .ok (.aload_n 0, 1) := by decide +kernel
theorem dX8_wipe_24 : decode cX8_wipe 24 = .ok (.invokevirtual 101, 3) := by decide +kernel
theorem dX8_wipe_27 : decode cX8_wipe 27 = .ok (.iload_n 3, 1) := by decide +kernel
theorem dX8_wipe_28 : decode cX8_wipe 28 = .ok (.ireturn, 1) := by decide +kernel
theorem dX8_undo_0 : decode cX8_undo 0 = .ok (.aload_n 0, 1) := by decide +kernel
theorem dX8_undo_1 : decode cX8_undo 1 = .ok (.iload_n 1, 1) := by decide +kernel
theorem dX8_undo_2 : decode cX8_undo 2 = .ok (.invokevirtual 104, 3) := by decide +kernel
theorem dX8_undo_5 : decode cX8_undo 5 = .ok (.astore_n 2, 1) := by decide +kernel
theorem dX8_undo_6 : decode cX8_undo 6 = .ok (.aload_n 2, 1) := by decide +kernel
theorem dX8_undo_7 : decode cX8_undo 7 = .ok (.ifnonnull 6, 3) := by decide +kernel
theorem dX8_undo_10 : decode cX8_undo 10 = .ok (.bipush (-2), 2) := by decide +kernel
theorem dX8_undo_12 : decode cX8_undo 12 = .ok (.ireturn, 1) := by decide +kernel
theorem dX8_undo_13 : decode cX8_undo 13 = .ok (.aload_n 2, 1) := by decide +kernel
theorem dX8_undo_14 : decode cX8_undo 14 = .ok (.invokevirtual 115, 3) := by decide +kernel
theorem dX8_undo_17 : decode cX8_undo 17 = .ok (.ifCond .ne 6, 3) := by decide +kernel
theorem dX8_undo_20 : decode cX8_undo 20 = .ok (.bipush (-3), 2) := by decide +kernel
theorem dX8_undo_22 : decode cX8_undo 22 = .ok (.ireturn, 1) := by decide +kernel
theorem dX8_undo_23 : decode cX8_undo 23 = .ok (.aload_n 2, 1) := by decide +kernel
theorem dX8_undo_24 : decode cX8_undo 24 = .ok (.iconst 1, 1) := by decide +kernel
theorem dX8_undo_25 : decode cX8_undo 25 = .ok (.invokevirtual 119, 3) := by decide +kernel
theorem dX8_undo_28 : decode cX8_undo 28 = .ok (.aload_n 0, 1) := by decide +kernel
theorem dX8_undo_29 : decode cX8_undo 29 = .ok (.invokevirtual 101, 3) := by decide +kernel
theorem dX8_undo_32 : decode cX8_undo 32 = .ok (.aload_n 2, 1) := by decide +kernel
theorem dX8_undo_33 : decode cX8_undo 33 = .ok (.invokevirtual 115, 3) := by decide +kernel
theorem dX8_undo_36 : decode cX8_undo 36 = .ok (.ireturn, 1) := by decide +kernel
theorem dX8_fault_0 : decode cX8_fault 0 = .ok (.aload_n 0, 1) := by decide +kernel
theorem dX8_fault_1 : decode cX8_fault 1 = .ok (.iload_n 1, 1) := by decide +kernel
theorem dX8_fault_2 : decode cX8_fault 2 = .ok (.invokevirtual 104, 3) := by decide +kernel
theorem dX8_fault_5 : decode cX8_fault 5 = .ok (.ifnonnull 6, 3) := by decide +kernel
theorem dX8_fault_8 : decode cX8_fault 8 = .ok (.bipush (-2), 2) := by decide +kernel
theorem dX8_fault_10 : decode cX8_fault 10 = .ok (.ireturn, 1) := by decide +kernel
theorem dX8_fault_11 : decode cX8_fault 11 = .ok (.iload_n 1, 1) := by decide +kernel
theorem dX8_fault_12 : decode cX8_fault 12 = .ok (.ifCond .ne 13, 3) := by decide +kernel
theorem dX8_fault_15 : decode cX8_fault 15 = .ok (.aload_n 0, 1) := by decide +kernel
theorem dX8_fault_16 : decode cX8_fault 16 = .ok (.getfield 24, 3) := by decide +kernel
theorem dX8_fault_19 : decode cX8_fault 19 = .ok (.invokevirtual 122, 3) := by decide +kernel
theorem dX8_fault_22 : decode cX8_fault 22 = .ok (.goto 10, 3) := by decide +kernel
theorem dX8_fault_25 : decode cX8_fault 25 = .ok (.aload_n 0, 1) := by decide +kernel
theorem dX8_fault_26 : decode cX8_fault 26 = .ok (.getfield 31, 3) := by decide +kernel
theorem dX8_fault_29 : decode cX8_fault 29 = .ok (.invokevirtual 125, 3) := by decide +kernel
theorem dX8_fault_32 : decode cX8_fault 32 = .ok (.ireturn, 1) := by decide +kernel
theorem dX8_wagon_0 : decode cX8_wagon 0 = .ok (.iload_n 1, 1) := by decide +kernel
theorem dX8_wagon_1 : decode cX8_wagon 1 = .ok (.ifCond .lt 25, 3) := by decide +kernel
theorem dX8_wagon_4 : decode cX8_wagon 4 = .ok (.iload_n 1, 1) := by decide +kernel
theorem dX8_wagon_5 : decode cX8_wagon 5 = .ok (.aload_n 0, 1) := by decide +kernel
theorem dX8_wagon_6 : decode cX8_wagon 6 = .ok (.getfield 24, 3) := by decide +kernel
theorem dX8_wagon_9 : decode cX8_wagon 9 = .ok (.invokevirtual 126, 3) := by decide +kernel
theorem dX8_wagon_12 : decode cX8_wagon 12 = .ok (.if_icmp .ge 14, 3) := by decide +kernel
theorem dX8_wagon_15 : decode cX8_wagon 15 = .ok (.aload_n 0, 1) := by decide +kernel
theorem dX8_wagon_16 : decode cX8_wagon 16 = .ok (.getfield 24, 3) := by decide +kernel
theorem dX8_wagon_19 : decode cX8_wagon 19 = .ok (.iload_n 1, 1) := by decide +kernel
theorem dX8_wagon_20 : decode cX8_wagon 20 = .ok (.invokevirtual 127, 3) := by decide +kernel
theorem dX8_wagon_23 : decode cX8_wagon 23 = .ok (.goto 5, 3) := by decide +kernel
theorem dX8_wagon_26 : decode cX8_wagon 26 = .ok (.bipush (-2), 2) := by decide +kernel
theorem dX8_wagon_28 : decode cX8_wagon 28 = .ok (.ireturn, 1) := by decide +kernel
theorem dX8_hill_0 : decode cX8_hill 0 = .ok (.iload_n 1, 1) := by decide +kernel
theorem dX8_hill_1 : decode cX8_hill 1 = .ok (.ifCond .lt 21, 3) := by decide +kernel
theorem dX8_hill_4 : decode cX8_hill 4 = .ok (.iload_n 1, 1) := by decide +kernel
theorem dX8_hill_5 : decode cX8_hill 5 = .ok (.aload_n 0, 1) := by decide +kernel
theorem dX8_hill_6 : decode cX8_hill 6 = .ok (.getfield 31, 3) := by decide +kernel
theorem dX8_hill_9 : decode cX8_hill 9 = .ok (.invokevirtual 131, 3) := by decide +kernel
theorem dX8_hill_12 : decode cX8_hill 12 = .ok (.if_icmp .ge 10, 3) := by decide +kernel
theorem dX8_hill_15 : decode cX8_hill 15 = .ok (.iload_n 2, 1) := by decide +kernel
theorem dX8_hill_16 : decode cX8_hill 16 = .ok (.invokestatic 132, 3) := by decide +kernel
theorem dX8_hill_19 : decode cX8_hill 19 = .ok (.ifCond .ne 6, 3) := by decide +kernel
theorem dX8_hill_22 : decode cX8_hill 22 = .ok (.bipush (-2), 2) := by decide +kernel
theorem dX8_hill_24 : decode cX8_hill 24 = .ok (.ireturn, 1) := by decide +kernel
theorem dX8_hill_25 : decode cX8_hill 25 = .ok (.iload_n 2, 1) := by decide +kernel
theorem dX8_hill_26 : decode cX8_hill 26 = .ok (.ifCond .ne 12, 3) := by decide +kernel
theorem dX8_hill_29 : decode cX8_hill 29 = .ok (.aload_n 0, 1) := by decide +kernel
theorem dX8_hill_30 : decode cX8_hill 30 = .ok (.getfield 31, 3) := by decide +kernel
theorem dX8_hill_33 : decode cX8_hill 33 = .ok (.iload_n 1, 1) := by decide +kernel
theorem dX8_hill_34 : decode cX8_hill 34 = .ok (.invokevirtual 136, 3) := by decide +kernel
theorem dX8_hill_37 : decode cX8_hill 37 = .ok (.ireturn, 1) := by decide +kernel
theorem dX8_hill_38 : decode cX8_hill 38 = .ok (.aload_n 0, 1) := by decide +kernel
theorem dX8_hill_39 : decode cX8_hill 39 = .ok (.getfield 31, 3) := by decide +kernel
theorem dX8_hill_42 : decode cX8_hill 42 = .ok (.iload_n 1, 1) := by decide +kernel
theorem dX8_hill_43 : decode cX8_hill 43 = .ok (.invokevirtual 139, 3) := by decide +kernel
theorem dX8_hill_46 : decode cX8_hill 46 = .ok (.ifCond .eq 7, 3) := by decide +kernel
theorem dX8_hill_49 : decode cX8_hill 49 = .ok (.iconst 1, 1) := by decide +kernel
theorem dX8_hill_50 : decode cX8_hill 50 = .ok (.goto 4, 3) := by decide +kernel
theorem dX8_hill_53 : decode cX8_hill 53 = .ok (.iconst 0, 1) := by decide +kernel
theorem dX8_hill_54 : decode cX8_hill 54 = .ok (.ireturn, 1) := by decide +kernel
theorem dX8_engine_0 : decode cX8_engine 0 = .ok (.iload_n 1, 1) := by decide +kernel
theorem dX8_engine_1 : decode cX8_engine 1 = .ok (.invokestatic 142, 3) := by decide +kernel
theorem dX8_engine_4 : decode cX8_engine 4 = .ok (.ifCond .eq 16, 3) := by decide +kernel
theorem dX8_engine_7 : decode cX8_engine 7 = .ok (.aload_n 0, 1) := by decide +kernel
theorem dX8_engine_8 : decode cX8_engine 8 = .ok (.iload_n 1, 1) := by decide +kernel
theorem dX8_engine_9 : decode cX8_engine 9 = .ok (.invokevirtual 145, 3) := by decide +kernel
theorem dX8_engine_12 : decode cX8_engine 12 = .ok (.iload_n 2, 1) := by decide +kernel
theorem dX8_engine_13 : decode cX8_engine 13 = .ok (.iload_n 3, 1) := by decide +kernel
theorem dX8_engine_14 : decode cX8_engine 14 = .ok (.invokevirtual 149, 3) := by decide +kernel
theorem dX8_engine_17 : decode cX8_engine 17 = .ok (.ifCond .ne 6, 3) := by decide +kernel
theorem dX8_engine_20 : decode cX8_engine 20 = .ok (.bipush (-2), 2) := by decide +kernel
theorem dX8_engine_22 : decode cX8_engine 22 = .ok (.ireturn, 1) := by decide +kernel
theorem dX8_engine_23 : decode cX8_engine 23 = .ok (.aload_n 0, 1) := by decide +kernel
theorem dX8_engine_24 : decode cX8_engine 24 = .ok (.iload_n 1, 1) := by decide +kernel
theorem dX8_engine_25 : decode cX8_engine 25 = .ok (.invokevirtual 145, 3) := by decide +kernel
theorem dX8_engine_28 : decode cX8_engine 28 = .ok (.iload_n 2, 1) := by decide +kernel
theorem dX8_engine_29 : decode cX8_engine 29 = .ok (.iload_n 3, 1) := by decide +kernel
theorem dX8_engine_30 : decode cX8_engine 30 = .ok (.invokevirtual 153, 3) := by decide +kernel
theorem dX8_engine_33 : decode cX8_engine 33 = .ok (.istore 4, 2) := by decide +kernel
theorem dX8_engine_35 : decode cX8_engine 35 = .ok (.aload_n 0, 1) := by decide +kernel
theorem dX8_engine_36 : decode cX8_engine 36 = .ok (.invokevirtual 101, 3) := by decide +kernel
theorem dX8_engine_39 : decode cX8_engine 39 = .ok (.iload 4, 2) := by decide +kernel
theorem dX8_engine_41 : decode cX8_engine 41 = .ok (.ireturn, 1) := by decide +kernel
theorem dX8_set_0 : decode cX8_set 0 = .ok (.aload_n 0, 1) := by decide +kernel
theorem dX8_set_1 : decode cX8_set 1 = .ok (.getfield 66, 3) := by decide +kernel
theorem dX8_set_4 : decode cX8_set 4 = .ok (.iload_n 1, 1) := by decide +kernel
theorem dX8_set_5 : decode cX8_set 5 = .ok (.iload_n 2, 1) := by decide +kernel
theorem dX8_set_6 : decode cX8_set 6 = .ok (.invokevirtual 149, 3) := by decide +kernel
theorem dX8_set_9 : decode cX8_set 9 = .ok (.ifCond .ne 6, 3) := by decide +kernel
theorem dX8_set_12 : decode cX8_set 12 = .ok (.bipush (-2), 2) := by decide +kernel
theorem dX8_set_14 : decode cX8_set 14 = .ok (.ireturn, 1) := by decide +kernel
theorem dX8_set_15 : decode cX8_set 15 = .ok (.aload_n 0, 1) := by decide +kernel
theorem dX8_set_16 : decode cX8_set 16 = .ok (.getfield 66, 3) := by decide +kernel
theorem dX8_set_19 : decode cX8_set 19 = .ok (.iload_n 1, 1) := by decide +kernel
theorem dX8_set_20 : decode cX8_set 20 = .ok (.iload_n 2, 1) := by decide +kernel
theorem dX8_set_21 : decode cX8_set 21 = .ok (.invokevirtual 153, 3) := by decide +kernel
theorem dX8_set_24 : decode cX8_set 24 = .ok (.istore_n 3, 1) := by decide +kernel
theorem dX8_set_25 : decode cX8_set 25 = .ok (.aload_n 0, 1) := by decide +kernel
theorem dX8_set_26 : decode cX8_set 26 = .ok (.invokevirtual 101, 3) := by decide +kernel
theorem dX8_set_29 : decode cX8_set 29 = .ok (.iload_n 3, 1) := by decide +kernel
theorem dX8_set_30 : decode cX8_set 30 = .ok (.ireturn, 1) := by decide +kernel
theorem dX8_gives_0 : decode cX8_gives 0 = .ok (.iload_n 1, 1) := by decide +kernel
theorem dX8_gives_1 : decode cX8_gives 1 = .ok (.invokestatic 157, 3) := by decide +kernel
theorem dX8_gives_4 : decode cX8_gives 4 = .ok (.ifCond .eq 22, 3) := by decide +kernel
theorem dX8_gives_7 : decode cX8_gives 7 = .ok (.iload_n 2, 1) := by decide +kernel
theorem dX8_gives_8 : decode cX8_gives 8 = .ok (.invokestatic 142, 3) := by decide +kernel
theorem dX8_gives_11 : decode cX8_gives 11 = .ok (.ifCond .eq 15, 3) := by decide +kernel
theorem dX8_gives_14 : decode cX8_gives 14 = .ok (.aload_n 0, 1) := by decide +kernel
theorem dX8_gives_15 : decode cX8_gives 15 = .ok (.getfield 72, 3) := by decide +kernel
theorem dX8_gives_18 : decode cX8_gives 18 = .ok (.iload_n 2, 1) := by decide +kernel
theorem dX8_gives_19 : decode cX8_gives 19 = .ok (.iload_n 1, 1) := by decide +kernel
theorem dX8_gives_20 : decode cX8_gives 20 = .ok (.invokevirtual 160, 3) := by decide +kernel
theorem dX8_gives_23 : decode cX8_gives 23 = .ok (.goto 5, 3) := by decide +kernel
theorem dX8_gives_26 : decode cX8_gives 26 = .ok (.bipush (-2), 2) := by decide +kernel
theorem dX8_gives_28 : decode cX8_gives 28 = .ok (.ireturn, 1) := by decide +kernel
theorem dX8_minute_0 : decode cX8_minute 0 = .ok (.iload_n 1, 1) := by decide +kernel
theorem dX8_minute_1 : decode cX8_minute 1 = .ok (.invokestatic 157, 3) := by decide +kernel
theorem dX8_minute_4 : decode cX8_minute 4 = .ok (.ifCond .eq 12, 3) := by decide +kernel
theorem dX8_minute_7 : decode cX8_minute 7 = .ok (.iload_n 2, 1) := by decide +kernel
theorem dX8_minute_8 : decode cX8_minute 8 = .ok (.ifCond .lt 8, 3) := by decide +kernel
theorem dX8_minute_11 : decode cX8_minute 11 = .ok (.iload_n 2, 1) := by decide +kernel
theorem dX8_minute_12 : decode cX8_minute 12 = .ok (.iconst 2, 1) := by decide +kernel
theorem dX8_minute_13 : decode cX8_minute 13 = .ok (.if_icmp .le 6, 3) := by decide +kernel
theorem dX8_minute_16 : decode cX8_minute 16 = .ok (.bipush (-2), 2) := by decide +kernel
theorem dX8_minute_18 : decode cX8_minute 18 = .ok (.ireturn, 1) := by decide +kernel
theorem dX8_minute_19 : decode cX8_minute 19 = .ok (.iload_n 2, 1) := by decide +kernel
theorem dX8_minute_20 : decode cX8_minute 20 = .ok (.ifCond .ne 12, 3) := by decide +kernel
theorem dX8_minute_23 : decode cX8_minute 23 = .ok (.aload_n 0, 1) := by decide +kernel
theorem dX8_minute_24 : decode cX8_minute 24 = .ok (.getfield 72, 3) := by decide +kernel
theorem dX8_minute_27 : decode cX8_minute 27 = .ok (.iload_n 1, 1) := by decide +kernel
theorem dX8_minute_28 : decode cX8_minute 28 = .ok (.invokevirtual 163, 3) := by decide +kernel
theorem dX8_minute_31 : decode cX8_minute 31 = .ok (.ireturn, 1) := by decide +kernel
theorem dX8_minute_32 : decode cX8_minute 32 = .ok (.iload_n 2, 1) := by decide +kernel
theorem dX8_minute_33 : decode cX8_minute 33 = .ok (.iconst 1, 1) := by decide +kernel
theorem dX8_minute_34 : decode cX8_minute 34 = .ok (.if_icmp .ne 12, 3) := by decide +kernel
theorem dX8_minute_37 : decode cX8_minute 37 = .ok (.aload_n 0, 1) := by decide +kernel
theorem dX8_minute_38 : decode cX8_minute 38 = .ok (.getfield 72, 3) := by decide +kernel
theorem dX8_minute_41 : decode cX8_minute 41 = .ok (.iload_n 1, 1) := by decide +kernel
theorem dX8_minute_42 : decode cX8_minute 42 = .ok (.invokevirtual 166, 3) := by decide +kernel
theorem dX8_minute_45 : decode cX8_minute 45 = .ok (.ireturn, 1) := by decide +kernel
theorem dX8_minute_46 : decode cX8_minute 46 = .ok (.aload_n 0, 1) := by decide +kernel
theorem dX8_minute_47 : decode cX8_minute 47 = .ok (.getfield 72, 3) := by decide +kernel
theorem dX8_minute_50 : decode cX8_minute 50 = .ok (.iload_n 1, 1) := by decide +kernel
theorem dX8_minute_51 : decode cX8_minute 51 = .ok (.invokevirtual 169, 3) := by decide +kernel
theorem dX8_minute_54 : decode cX8_minute 54 = .ok (.istore_n 3, 1) := by decide +kernel
theorem dX8_minute_55 : decode cX8_minute 55 = .ok (.iload_n 3, 1) := by decide +kernel
theorem dX8_minute_56 : decode cX8_minute 56 = .ok (.aload_n 0, 1) := by decide +kernel
theorem dX8_minute_57 : decode cX8_minute 57 = .ok (.getfield 31, 3) := by decide +kernel
theorem dX8_minute_60 : decode cX8_minute 60 = .ok (.invokevirtual 131, 3) := by decide +kernel
theorem dX8_minute_63 : decode cX8_minute 63 = .ok (.if_icmp .ge 7, 3) := by decide +kernel
theorem dX8_minute_66 : decode cX8_minute 66 = .ok (.iload_n 3, 1) := by decide +kernel
theorem dX8_minute_67 : decode cX8_minute 67 = .ok (.goto 4, 3) := by decide +kernel
theorem dX8_minute_70 : decode cX8_minute 70 = .ok (.iconst (-1), 1) := by decide +kernel
theorem dX8_minute_71 : decode cX8_minute 71 = .ok (.ireturn, 1) := by decide +kernel
theorem dX8_strain_0 : decode cX8_strain 0 = .ok (.iload_n 1, 1) := by decide +kernel
theorem dX8_strain_1 : decode cX8_strain 1 = .ok (.invokestatic 157, 3) := by decide +kernel
theorem dX8_strain_4 : decode cX8_strain 4 = .ok (.ifCond .eq 25, 3) := by decide +kernel
theorem dX8_strain_7 : decode cX8_strain 7 = .ok (.iload_n 2, 1) := by decide +kernel
theorem dX8_strain_8 : decode cX8_strain 8 = .ok (.ifCond .lt 21, 3) := by decide +kernel
theorem dX8_strain_11 : decode cX8_strain 11 = .ok (.iload_n 2, 1) := by decide +kernel
theorem dX8_strain_12 : decode cX8_strain 12 = .ok (.aload_n 0, 1) := by decide +kernel
theorem dX8_strain_13 : decode cX8_strain 13 = .ok (.getfield 24, 3) := by decide +kernel
theorem dX8_strain_16 : decode cX8_strain 16 = .ok (.invokevirtual 126, 3) := by decide +kernel
theorem dX8_strain_19 : decode cX8_strain 19 = .ok (.if_icmp .gt 10, 3) := by decide +kernel
theorem dX8_strain_22 : decode cX8_strain 22 = .ok (.iload_n 3, 1) := by decide +kernel
theorem dX8_strain_23 : decode cX8_strain 23 = .ok (.invokestatic 132, 3) := by decide +kernel
theorem dX8_strain_26 : decode cX8_strain 26 = .ok (.ifCond .ne 9, 3) := by decide +kernel
theorem dX8_strain_29 : decode cX8_strain 29 = .ok (.bipush (-2), 2) := by decide +kernel
theorem dX8_strain_31 : decode cX8_strain 31 = .ok (.invokestatic 172, 3) := by decide +kernel
theorem dX8_strain_34 : decode cX8_strain 34 = .ok (.lreturn, 1) := by decide +kernel
theorem dX8_strain_35 : decode cX8_strain 35 = .ok (.aload_n 0, 1) := by decide +kernel
theorem dX8_strain_36 : decode cX8_strain 36 = .ok (.getfield 24, 3) := by decide +kernel
theorem dX8_strain_39 : decode cX8_strain 39 = .ok (.invokevirtual 126, 3) := by decide +kernel
theorem dX8_strain_42 : decode cX8_strain 42 = .ok (.ifCond .ne 9, 3) := by decide +kernel
theorem dX8_strain_45 : decode cX8_strain 45 = .ok (.bipush (-3), 2) := by decide +kernel
theorem dX8_strain_47 : decode cX8_strain 47 = .ok (.invokestatic 172, 3) := by decide +kernel
theorem dX8_strain_50 : decode cX8_strain 50 = .ok (.lreturn, 1) := by decide +kernel
theorem dX8_strain_51 : decode cX8_strain 51 = .ok (.aload_n 0, 1) := by decide +kernel
theorem dX8_strain_52 : decode cX8_strain 52 = .ok (.getfield 24, 3) := by decide +kernel
theorem dX8_strain_55 : decode cX8_strain 55 = .ok (.iload_n 2, 1) := by decide +kernel
theorem dX8_strain_56 : decode cX8_strain 56 = .ok (.aload_n 0, 1) := by decide +kernel
theorem dX8_strain_57 : decode cX8_strain 57 = .ok (.getfield 72, 3) := by decide +kernel
theorem dX8_strain_60 : decode cX8_strain 60 = .ok (.iconst 0, 1) := by decide +kernel
theorem dX8_strain_61 : decode cX8_strain 61 = .ok (.iload_n 1, 1) := by decide +kernel
theorem dX8_strain_62 : decode cX8_strain 62 = .ok (.invokevirtual 160, 3) := by decide +kernel
theorem dX8_strain_65 : decode cX8_strain 65 = .ok (.aload_n 0, 1) := by decide +kernel
theorem dX8_strain_66 : decode cX8_strain 66 = .ok (.getfield 72, 3) := by decide +kernel
theorem dX8_strain_69 : decode cX8_strain 69 = .ok (.iconst 1, 1) := by decide +kernel
theorem dX8_strain_70 : decode cX8_strain 70 = .ok (.iload_n 1, 1) := by decide +kernel
theorem dX8_strain_71 : decode cX8_strain 71 = .ok (.invokevirtual 160, 3) := by decide +kernel
theorem dX8_strain_74 : decode cX8_strain 74 = .ok (.invokevirtual 176, 3) := by decide +kernel
theorem dX8_strain_77 : decode cX8_strain 77 = .ok (.istore 4, 2) := by decide +kernel
theorem dX8_strain_79 : decode cX8_strain 79 = .ok (.iload 4, 2) := by decide +kernel
theorem dX8_strain_81 : decode cX8_strain 81 = .ok (.i2l, 1) := by decide +kernel
theorem dX8_strain_82 : decode cX8_strain 82 = .ok (.aload_n 0, 1) := by decide +kernel
theorem dX8_strain_83 : decode cX8_strain 83 = .ok (.getfield 24, 3) := by decide +kernel
theorem dX8_strain_86 : decode cX8_strain 86 = .ok (.invokevirtual 180, 3) := by decide +kernel
theorem dX8_strain_89 : decode cX8_strain 89 = .ok (.i2l, 1) := by decide +kernel
theorem dX8_strain_90 : decode cX8_strain 90 = .ok (.iload_n 3, 1) := by decide +kernel
theorem dX8_strain_91 : decode cX8_strain 91 = .ok (.invokestatic 183, 3) := by decide +kernel
theorem dX8_strain_94 : decode cX8_strain 94 = .ok (.lreturn, 1) := by decide +kernel
theorem dX8_slack_0 : decode cX8_slack 0 = .ok (.iload_n 1, 1) := by decide +kernel
theorem dX8_slack_1 : decode cX8_slack 1 = .ok (.invokestatic 157, 3) := by decide +kernel
theorem dX8_slack_4 : decode cX8_slack 4 = .ok (.ifCond .ne 6, 3) := by decide +kernel
theorem dX8_slack_7 : decode cX8_slack 7 = .ok (.bipush (-2), 2) := by decide +kernel
theorem dX8_slack_9 : decode cX8_slack 9 = .ok (.ireturn, 1) := by decide +kernel
theorem dX8_slack_10 : decode cX8_slack 10 = .ok (.aload_n 0, 1) := by decide +kernel
theorem dX8_slack_11 : decode cX8_slack 11 = .ok (.getfield 24, 3) := by decide +kernel
theorem dX8_slack_14 : decode cX8_slack 14 = .ok (.invokevirtual 126, 3) := by decide +kernel
theorem dX8_slack_17 : decode cX8_slack 17 = .ok (.ifCond .ne 6, 3) := by decide +kernel
theorem dX8_slack_20 : decode cX8_slack 20 = .ok (.bipush (-3), 2) := by decide +kernel
theorem dX8_slack_22 : decode cX8_slack 22 = .ok (.ireturn, 1) := by decide +kernel
theorem dX8_slack_23 : decode cX8_slack 23 = .ok (.aload_n 0, 1) := by decide +kernel
theorem dX8_slack_24 : decode cX8_slack 24 = .ok (.getfield 24, 3) := by decide +kernel
theorem dX8_slack_27 : decode cX8_slack 27 = .ok (.aload_n 0, 1) := by decide +kernel
theorem dX8_slack_28 : decode cX8_slack 28 = .ok (.getfield 72, 3) := by decide +kernel
theorem dX8_slack_31 : decode cX8_slack 31 = .ok (.iconst 0, 1) := by decide +kernel
theorem dX8_slack_32 : decode cX8_slack 32 = .ok (.iload_n 1, 1) := by decide +kernel
theorem dX8_slack_33 : decode cX8_slack 33 = .ok (.invokevirtual 160, 3) := by decide +kernel
theorem dX8_slack_36 : decode cX8_slack 36 = .ok (.aload_n 0, 1) := by decide +kernel
theorem dX8_slack_37 : decode cX8_slack 37 = .ok (.getfield 72, 3) := by decide +kernel
theorem dX8_slack_40 : decode cX8_slack 40 = .ok (.iconst 1, 1) := by decide +kernel
theorem dX8_slack_41 : decode cX8_slack 41 = .ok (.iload_n 1, 1) := by decide +kernel
theorem dX8_slack_42 : decode cX8_slack 42 = .ok (.invokevirtual 160, 3) := by decide +kernel
theorem dX8_slack_45 : decode cX8_slack 45 = .ok (.invokevirtual 187, 3) := by decide +kernel
theorem dX8_slack_48 : decode cX8_slack 48 = .ok (.ireturn, 1) := by decide +kernel
theorem dX8_torn_0 : decode cX8_torn 0 = .ok (.aload_n 0, 1) := by decide +kernel
theorem dX8_torn_1 : decode cX8_torn 1 = .ok (.getfield 66, 3) := by decide +kernel
theorem dX8_torn_4 : decode cX8_torn 4 = .ok (.iconst 0, 1) := by decide +kernel
theorem dX8_torn_5 : decode cX8_torn 5 = .ok (.invokevirtual 190, 3) := by decide +kernel
theorem dX8_torn_8 : decode cX8_torn 8 = .ok (.istore_n 1, 1) := by decide +kernel
theorem dX8_torn_9 : decode cX8_torn 9 = .ok (.iconst 0, 1) := by decide +kernel
theorem dX8_torn_10 : decode cX8_torn 10 = .ok (.istore_n 2, 1) := by decide +kernel
theorem dX8_torn_11 : decode cX8_torn 11 = .ok (.iload_n 2, 1) := by decide +kernel
theorem dX8_torn_12 : decode cX8_torn 12 = .ok (.bipush 40, 2) := by decide +kernel
theorem dX8_torn_14 : decode cX8_torn 14 = .ok (.if_icmp .ge 40, 3) := by decide +kernel
theorem dX8_torn_17 : decode cX8_torn 17 = .ok (.aload_n 0, 1) := by decide +kernel
theorem dX8_torn_18 : decode cX8_torn 18 = .ok (.getfield 24, 3) := by decide +kernel
theorem dX8_torn_21 : decode cX8_torn 21 = .ok (.aload_n 0, 1) := by decide +kernel
theorem dX8_torn_22 : decode cX8_torn 22 = .ok (.getfield 72, 3) := by decide +kernel
theorem dX8_torn_25 : decode cX8_torn 25 = .ok (.iconst 0, 1) := by decide +kernel
theorem dX8_torn_26 : decode cX8_torn 26 = .ok (.iload_n 2, 1) := by decide +kernel
theorem dX8_torn_27 : decode cX8_torn 27 = .ok (.invokevirtual 160, 3) := by decide +kernel
theorem dX8_torn_30 : decode cX8_torn 30 = .ok (.aload_n 0, 1) := by decide +kernel
theorem dX8_torn_31 : decode cX8_torn 31 = .ok (.getfield 72, 3) := by decide +kernel
theorem dX8_torn_34 : decode cX8_torn 34 = .ok (.iconst 1, 1) := by decide +kernel
theorem dX8_torn_35 : decode cX8_torn 35 = .ok (.iload_n 2, 1) := by decide +kernel
theorem dX8_torn_36 : decode cX8_torn 36 = .ok (.invokevirtual 160, 3) := by decide +kernel
theorem dX8_torn_39 : decode cX8_torn 39 = .ok (.iload_n 1, 1) := by decide +kernel
theorem dX8_torn_40 : decode cX8_torn 40 = .ok (.invokevirtual 193, 3) := by decide +kernel
theorem dX8_torn_43 : decode cX8_torn 43 = .ok (.ifCond .eq 5, 3) := by decide +kernel
theorem dX8_torn_46 : decode cX8_torn 46 = .ok (.iload_n 2, 1) := by decide +kernel
theorem dX8_torn_47 : decode cX8_torn 47 = .ok (.ireturn, 1) := by decide +kernel
theorem dX8_torn_48 : decode cX8_torn 48 = .ok (.iinc 2 1, 3) := by decide +kernel
theorem dX8_torn_51 : decode cX8_torn 51 = .ok (.goto (-40), 3) := by decide +kernel
theorem dX8_torn_54 : decode cX8_torn 54 = .ok (.iconst (-1), 1) := by decide +kernel
theorem dX8_torn_55 : decode cX8_torn 55 = .ok (.ireturn, 1) := by decide +kernel
theorem dX8_off_0 : decode cX8_off 0 = .ok (.iload_n 1, 1) := by decide +kernel
theorem dX8_off_1 : decode cX8_off 1 = .ok (.invokestatic 132, 3) := by decide +kernel
theorem dX8_off_4 : decode cX8_off 4 = .ok (.ifCond .ne 6, 3) := by decide +kernel
theorem dX8_off_7 : decode cX8_off 7 = .ok (.bipush (-2), 2) := by decide +kernel
theorem dX8_off_9 : decode cX8_off 9 = .ok (.ireturn, 1) := by decide +kernel
theorem dX8_off_10 : decode cX8_off 10 = .ok (.iconst 0, 1) := by decide +kernel
theorem dX8_off_11 : decode cX8_off 11 = .ok (.istore_n 2, 1) := by decide +kernel
theorem dX8_off_12 : decode cX8_off 12 = .ok (.iload_n 2, 1) := by decide +kernel
theorem dX8_off_13 : decode cX8_off 13 = .ok (.bipush 40, 2) := by decide +kernel
theorem dX8_off_15 : decode cX8_off 15 = .ok (.if_icmp .ge 30, 3) := by decide +kernel
theorem dX8_off_18 : decode cX8_off 18 = .ok (.aload_n 0, 1) := by decide +kernel
theorem dX8_off_19 : decode cX8_off 19 = .ok (.iload_n 2, 1) := by decide +kernel
theorem dX8_off_20 : decode cX8_off 20 = .ok (.invokevirtual 197, 3) := by decide +kernel
theorem dX8_off_23 : decode cX8_off 23 = .ok (.istore_n 3, 1) := by decide +kernel
theorem dX8_off_24 : decode cX8_off 24 = .ok (.iload_n 3, 1) := by decide +kernel
theorem dX8_off_25 : decode cX8_off 25 = .ok (.iconst (-1), 1) := by decide +kernel
theorem dX8_off_26 : decode cX8_off 26 = .ok (.if_icmp .eq 13, 3) := by decide +kernel
theorem dX8_off_29 : decode cX8_off 29 = .ok (.iload_n 1, 1) := by decide +kernel
theorem dX8_off_30 : decode cX8_off 30 = .ok (.ifCond .ne 7, 3) := by decide +kernel
theorem dX8_off_33 : decode cX8_off 33 = .ok (.iload_n 2, 1) := by decide +kernel
theorem dX8_off_34 : decode cX8_off 34 = .ok (.goto 4, 3) := by decide +kernel
theorem dX8_off_37 : decode cX8_off 37 = .ok (.iload_n 3, 1) := by decide +kernel
theorem dX8_off_38 : decode cX8_off 38 = .ok (.ireturn, 1) := by decide +kernel
theorem dX8_off_39 : decode cX8_off 39 = .ok (.iinc 2 1, 3) := by decide +kernel
theorem dX8_off_42 : decode cX8_off 42 = .ok (.goto (-30), 3) := by decide +kernel
theorem dX8_off_45 : decode cX8_off 45 = .ok (.iconst (-1), 1) := by decide +kernel
theorem dX8_off_46 : decode cX8_off 46 = .ok (.ireturn, 1) := by decide +kernel
theorem dX8_over_0 : decode cX8_over 0 = .ok (.aload_n 0, 1) := by decide +kernel
theorem dX8_over_1 : decode cX8_over 1 = .ok (.getfield 31, 3) := by decide +kernel
theorem dX8_over_4 : decode cX8_over 4 = .ok (.invokevirtual 131, 3) := by decide +kernel
theorem dX8_over_7 : decode cX8_over 7 = .ok (.ifCond .ne 5, 3) := by decide +kernel
theorem dX8_over_10 : decode cX8_over 10 = .ok (.iconst (-1), 1) := by decide +kernel
theorem dX8_over_11 : decode cX8_over 11 = .ok (.ireturn, 1) := by decide +kernel
theorem dX8_over_12 : decode cX8_over 12 = .ok (.iconst 0, 1) := by decide +kernel
theorem dX8_over_13 : decode cX8_over 13 = .ok (.istore_n 1, 1) := by decide +kernel
theorem dX8_over_14 : decode cX8_over 14 = .ok (.iload_n 1, 1) := by decide +kernel
theorem dX8_over_15 : decode cX8_over 15 = .ok (.bipush 40, 2) := by decide +kernel
theorem dX8_over_17 : decode cX8_over 17 = .ok (.if_icmp .ge 29, 3) := by decide +kernel
theorem dX8_over_20 : decode cX8_over 20 = .ok (.aload_n 0, 1) := by decide +kernel
theorem dX8_over_21 : decode cX8_over 21 = .ok (.getfield 72, 3) := by decide +kernel
theorem dX8_over_24 : decode cX8_over 24 = .ok (.iload_n 1, 1) := by decide +kernel
theorem dX8_over_25 : decode cX8_over 25 = .ok (.invokevirtual 169, 3) := by decide +kernel
theorem dX8_over_28 : decode cX8_over 28 = .ok (.aload_n 0, 1) := by decide +kernel
theorem dX8_over_29 : decode cX8_over 29 = .ok (.getfield 31, 3) := by decide +kernel
theorem dX8_over_32 : decode cX8_over 32 = .ok (.invokevirtual 131, 3) := by decide +kernel
theorem dX8_over_35 : decode cX8_over 35 = .ok (.if_icmp .lt 5, 3) := by decide +kernel
theorem dX8_over_38 : decode cX8_over 38 = .ok (.iload_n 1, 1) := by decide +kernel
theorem dX8_over_39 : decode cX8_over 39 = .ok (.ireturn, 1) := by decide +kernel
theorem dX8_over_40 : decode cX8_over 40 = .ok (.iinc 1 1, 3) := by decide +kernel
theorem dX8_over_43 : decode cX8_over 43 = .ok (.goto (-29), 3) := by decide +kernel
theorem dX8_over_46 : decode cX8_over 46 = .ok (.iconst (-1), 1) := by decide +kernel
theorem dX8_over_47 : decode cX8_over 47 = .ok (.ireturn, 1) := by decide +kernel
theorem dX8_settles_0 : decode cX8_settles 0 = .ok (.iconst (-1), 1) := by decide +kernel
theorem dX8_settles_1 : decode cX8_settles 1 = .ok (.istore_n 1, 1) := by decide +kernel
theorem dX8_settles_2 : decode cX8_settles 2 = .ok (.bipush 38, 2) := by decide +kernel
theorem dX8_settles_4 : decode cX8_settles 4 = .ok (.istore_n 2, 1) := by decide +kernel
theorem dX8_settles_5 : decode cX8_settles 5 = .ok (.iload_n 2, 1) := by decide +kernel
theorem dX8_settles_6 : decode cX8_settles 6 = .ok (.ifCond .lt 24, 3) := by decide +kernel
theorem dX8_settles_9 : decode cX8_settles 9 = .ok (.aload_n 0, 1) := by decide +kernel
theorem dX8_settles_10 : decode cX8_settles 10 = .ok (.getfield 72, 3) := by decide +kernel
theorem dX8_settles_13 : decode cX8_settles 13 = .ok (.iload_n 2, 1) := by decide +kernel
theorem dX8_settles_14 : decode cX8_settles 14 = .ok (.bipush 39, 2) := by decide +kernel
theorem dX8_settles_16 : decode cX8_settles 16 = .ok (.invokevirtual 200, 3) := by decide +kernel
theorem dX8_settles_19 : decode cX8_settles 19 = .ok (.ifCond .eq 11, 3) := by decide +kernel
theorem dX8_settles_22 : decode cX8_settles 22 = .ok (.iload_n 2, 1) := by decide +kernel
theorem dX8_settles_23 : decode cX8_settles 23 = .ok (.istore_n 1, 1) := by decide +kernel
theorem dX8_settles_24 : decode cX8_settles 24 = .ok (.iinc 2 (-1), 3) := by decide +kernel
theorem dX8_settles_27 : decode cX8_settles 27 = .ok (.goto (-22), 3) := by decide +kernel
theorem dX8_settles_30 : decode cX8_settles 30 = .ok (.iload_n 1, 1) := by decide +kernel
theorem dX8_settles_31 : decode cX8_settles 31 = .ok (.ireturn, 1) := by decide +kernel
theorem dX8_swings_0 : decode cX8_swings 0 = .ok (.iconst 1, 1) := by decide +kernel
theorem dX8_swings_1 : decode cX8_swings 1 = .ok (.istore_n 1, 1) := by decide +kernel
theorem dX8_swings_2 : decode cX8_swings 2 = .ok (.iload_n 1, 1) := by decide +kernel
theorem dX8_swings_3 : decode cX8_swings 3 = .ok (.bipush 12, 2) := by decide +kernel
theorem dX8_swings_5 : decode cX8_swings 5 = .ok (.if_icmp .gt 22, 3) := by decide +kernel
theorem dX8_swings_8 : decode cX8_swings 8 = .ok (.aload_n 0, 1) := by decide +kernel
theorem dX8_swings_9 : decode cX8_swings 9 = .ok (.getfield 72, 3) := by decide +kernel
theorem dX8_swings_12 : decode cX8_swings 12 = .ok (.iload_n 1, 1) := by decide +kernel
theorem dX8_swings_13 : decode cX8_swings 13 = .ok (.invokevirtual 203, 3) := by decide +kernel
theorem dX8_swings_16 : decode cX8_swings 16 = .ok (.ifCond .eq 5, 3) := by decide +kernel
theorem dX8_swings_19 : decode cX8_swings 19 = .ok (.iload_n 1, 1) := by decide +kernel
theorem dX8_swings_20 : decode cX8_swings 20 = .ok (.ireturn, 1) := by decide +kernel
theorem dX8_swings_21 : decode cX8_swings 21 = .ok (.iinc 1 1, 3) := by decide +kernel
theorem dX8_swings_24 : decode cX8_swings 24 = .ok (.goto (-22), 3) := by decide +kernel
theorem dX8_swings_27 : decode cX8_swings 27 = .ok (.iconst (-1), 1) := by decide +kernel
theorem dX8_swings_28 : decode cX8_swings 28 = .ok (.ireturn, 1) := by decide +kernel
theorem dX8_does_0 : decode cX8_does 0 = .ok (.iload_n 1, 1) := by decide +kernel
theorem dX8_does_1 : decode cX8_does 1 = .ok (.invokestatic 132, 3) := by decide +kernel
theorem dX8_does_4 : decode cX8_does 4 = .ok (.ifCond .ne 6, 3) := by decide +kernel
theorem dX8_does_7 : decode cX8_does 7 = .ok (.bipush (-2), 2) := by decide +kernel
theorem dX8_does_9 : decode cX8_does 9 = .ok (.ireturn, 1) := by decide +kernel
theorem dX8_does_10 : decode cX8_does 10 = .ok (.aload_n 0, 1) := by decide +kernel
theorem dX8_does_11 : decode cX8_does 11 = .ok (.getfield 72, 3) := by decide +kernel
theorem dX8_does_14 : decode cX8_does 14 = .ok (.iconst 0, 1) := by decide +kernel
theorem dX8_does_15 : decode cX8_does 15 = .ok (.invokevirtual 206, 3) := by decide +kernel
theorem dX8_does_18 : decode cX8_does 18 = .ok (.istore_n 2, 1) := by decide +kernel
theorem dX8_does_19 : decode cX8_does 19 = .ok (.iload_n 2, 1) := by decide +kernel
theorem dX8_does_20 : decode cX8_does 20 = .ok (.aload_n 0, 1) := by decide +kernel
theorem dX8_does_21 : decode cX8_does 21 = .ok (.getfield 72, 3) := by decide +kernel
theorem dX8_does_24 : decode cX8_does 24 = .ok (.iconst 1, 1) := by decide +kernel
theorem dX8_does_25 : decode cX8_does 25 = .ok (.invokevirtual 206, 3) := by decide +kernel
theorem dX8_does_28 : decode cX8_does 28 = .ok (.iadd, 1) := by decide +kernel
theorem dX8_does_29 : decode cX8_does 29 = .ok (.istore_n 3, 1) := by decide +kernel
theorem dX8_does_30 : decode cX8_does 30 = .ok (.iload_n 2, 1) := by decide +kernel
theorem dX8_does_31 : decode cX8_does 31 = .ok (.i2l, 1) := by decide +kernel
theorem dX8_does_32 : decode cX8_does 32 = .ok (.iload_n 3, 1) := by decide +kernel
theorem dX8_does_33 : decode cX8_does 33 = .ok (.i2l, 1) := by decide +kernel
theorem dX8_does_34 : decode cX8_does 34 = .ok (.iload_n 1, 1) := by decide +kernel
theorem dX8_does_35 : decode cX8_does 35 = .ok (.invokestatic 183, 3) := by decide +kernel
theorem dX8_does_38 : decode cX8_does 38 = .ok (.l2i, 1) := by decide +kernel
theorem dX8_does_39 : decode cX8_does 39 = .ok (.ireturn, 1) := by decide +kernel
theorem dX8_start_0 : decode cX8_start 0 = .ok (.iload_n 1, 1) := by decide +kernel
theorem dX8_start_1 : decode cX8_start 1 = .ok (.invokestatic 209, 3) := by decide +kernel
theorem dX8_start_4 : decode cX8_start 4 = .ok (.ifCond .eq 19, 3) := by decide +kernel
theorem dX8_start_7 : decode cX8_start 7 = .ok (.iload_n 2, 1) := by decide +kernel
theorem dX8_start_8 : decode cX8_start 8 = .ok (.invokestatic 209, 3) := by decide +kernel
theorem dX8_start_11 : decode cX8_start 11 = .ok (.ifCond .eq 12, 3) := by decide +kernel
theorem dX8_start_14 : decode cX8_start 14 = .ok (.aload_n 0, 1) := by decide +kernel
theorem dX8_start_15 : decode cX8_start 15 = .ok (.iload_n 1, 1) := by decide +kernel
theorem dX8_start_16 : decode cX8_start 16 = .ok (.iload_n 2, 1) := by decide +kernel
theorem dX8_start_17 : decode cX8_start 17 = .ok (.invokevirtual 212, 3) := by decide +kernel
theorem dX8_start_20 : decode cX8_start 20 = .ok (.goto 5, 3) := by decide +kernel
theorem dX8_start_23 : decode cX8_start 23 = .ok (.bipush (-2), 2) := by decide +kernel
theorem dX8_start_25 : decode cX8_start 25 = .ok (.ireturn, 1) := by decide +kernel
theorem dX8_safe_0 : decode cX8_safe 0 = .ok (.iload_n 1, 1) := by decide +kernel
theorem dX8_safe_1 : decode cX8_safe 1 = .ok (.invokestatic 132, 3) := by decide +kernel
theorem dX8_safe_4 : decode cX8_safe 4 = .ok (.ifCond .ne 6, 3) := by decide +kernel
theorem dX8_safe_7 : decode cX8_safe 7 = .ok (.bipush (-2), 2) := by decide +kernel
theorem dX8_safe_9 : decode cX8_safe 9 = .ok (.ireturn, 1) := by decide +kernel
theorem dX8_safe_10 : decode cX8_safe 10 = .ok (.iconst 0, 1) := by decide +kernel
theorem dX8_safe_11 : decode cX8_safe 11 = .ok (.istore_n 2, 1) := by decide +kernel
theorem dX8_safe_12 : decode cX8_safe 12 = .ok (.iconst (-1), 1) := by decide +kernel
theorem dX8_safe_13 : decode cX8_safe 13 = .ok (.istore_n 3, 1) := by decide +kernel
theorem dX8_safe_14 : decode cX8_safe 14 = .ok (.iconst 0, 1) := by decide +kernel
theorem dX8_safe_15 : decode cX8_safe 15 = .ok (.istore 4, 2) := by decide +kernel
theorem dX8_safe_17 : decode cX8_safe 17 = .ok (.iload 4, 2) := by decide +kernel
theorem dX8_safe_19 : decode cX8_safe 19 = .ok (.bipush 100, 2) := by decide +kernel
theorem dX8_safe_21 : decode cX8_safe 21 = .ok (.if_icmp .ge 41, 3) := by decide +kernel
theorem dX8_safe_24 : decode cX8_safe 24 = .ok (.aload_n 0, 1) := by decide +kernel
theorem dX8_safe_25 : decode cX8_safe 25 = .ok (.iload 4, 2) := by decide +kernel
theorem dX8_safe_27 : decode cX8_safe 27 = .ok (.bipush 10, 2) := by decide +kernel
theorem dX8_safe_29 : decode cX8_safe 29 = .ok (.idiv, 1) := by decide +kernel
theorem dX8_safe_30 : decode cX8_safe 30 = .ok (.iload 4, 2) := by decide +kernel
theorem dX8_safe_32 : decode cX8_safe 32 = .ok (.bipush 10, 2) := by decide +kernel
theorem dX8_safe_34 : decode cX8_safe 34 = .ok (.irem, 1) := by decide +kernel
theorem dX8_safe_35 : decode cX8_safe 35 = .ok (.invokevirtual 212, 3) := by decide +kernel
theorem dX8_safe_38 : decode cX8_safe 38 = .ok (.ifCond .ne 18, 3) := by decide +kernel
theorem dX8_safe_41 : decode cX8_safe 41 = .ok (.iinc 2 1, 3) := by decide +kernel
theorem dX8_safe_44 : decode cX8_safe 44 = .ok (.iload_n 3, 1) := by decide +kernel
theorem dX8_safe_45 : decode cX8_safe 45 = .ok (.iconst (-1), 1) := by decide +kernel
theorem dX8_safe_46 : decode cX8_safe 46 = .ok (.if_icmp .ne 8, 3) := by decide +kernel
theorem dX8_safe_49 : decode cX8_safe 49 = .ok (.iload 4, 2) := by decide +kernel
theorem dX8_safe_51 : decode cX8_safe 51 = .ok (.goto 4, 3) := by decide +kernel
theorem dX8_safe_54 : decode cX8_safe 54 = .ok (.iload_n 3, 1) := by decide +kernel
theorem dX8_safe_55 : decode cX8_safe 55 = .ok (.istore_n 3, 1) := by decide +kernel
theorem dX8_safe_56 : decode cX8_safe 56 = .ok (.iinc 4 1, 3) := by decide +kernel
theorem dX8_safe_59 : decode cX8_safe 59 = .ok (.goto (-42), 3) := by decide +kernel
theorem dX8_safe_62 : decode cX8_safe 62 = .ok (.iload_n 1, 1) := by decide +kernel
theorem dX8_safe_63 : decode cX8_safe 63 = .ok (.ifCond .ne 7, 3) := by decide +kernel
theorem dX8_safe_66 : decode cX8_safe 66 = .ok (.iload_n 2, 1) := by decide +kernel
theorem dX8_safe_67 : decode cX8_safe 67 = .ok (.goto 4, 3) := by decide +kernel
theorem dX8_safe_70 : decode cX8_safe 70 = .ok (.iload_n 3, 1) := by decide +kernel
theorem dX8_safe_71 : decode cX8_safe 71 = .ok (.ireturn, 1) := by decide +kernel
theorem dX8_order_0 : decode cX8_order 0 = .ok (.iload_n 1, 1) := by decide +kernel
theorem dX8_order_1 : decode cX8_order 1 = .ok (.ifCond .lt 9, 3) := by decide +kernel
theorem dX8_order_4 : decode cX8_order 4 = .ok (.iload_n 1, 1) := by decide +kernel
theorem dX8_order_5 : decode cX8_order 5 = .ok (.bipush 6, 2) := by decide +kernel
theorem dX8_order_7 : decode cX8_order 7 = .ok (.if_icmp .lt 6, 3) := by decide +kernel
theorem dX8_order_10 : decode cX8_order 10 = .ok (.bipush (-2), 2) := by decide +kernel
theorem dX8_order_12 : decode cX8_order 12 = .ok (.ireturn, 1) := by decide +kernel
theorem dX8_order_13 : decode cX8_order 13 = .ok (.aload_n 0, 1) := by decide +kernel
theorem dX8_order_14 : decode cX8_order 14 = .ok (.invokevirtual 215, 3) := by decide +kernel
theorem dX8_order_17 : decode cX8_order 17 = .ok (.aload_n 0, 1) := by decide +kernel
theorem dX8_order_18 : decode cX8_order 18 = .ok (.getfield 79, 3) := by decide +kernel
theorem dX8_order_21 : decode cX8_order 21 = .ok (.iload_n 1, 1) := by decide +kernel
theorem dX8_order_22 : decode cX8_order 22 = .ok (.invokevirtual 218, 3) := by decide +kernel
theorem dX8_order_25 : decode cX8_order 25 = .ok (.ireturn, 1) := by decide +kernel
theorem dX8_squeeze_0 : decode cX8_squeeze 0 = .ok (.iload_n 1, 1) := by decide +kernel
theorem dX8_squeeze_1 : decode cX8_squeeze 1 = .ok (.invokestatic 132, 3) := by decide +kernel
theorem dX8_squeeze_4 : decode cX8_squeeze 4 = .ok (.ifCond .ne 6, 3) := by decide +kernel
theorem dX8_squeeze_7 : decode cX8_squeeze 7 = .ok (.bipush (-2), 2) := by decide +kernel
theorem dX8_squeeze_9 : decode cX8_squeeze 9 = .ok (.ireturn, 1) := by decide +kernel
theorem dX8_squeeze_10 : decode cX8_squeeze 10 = .ok (.aload_n 0, 1) := by decide +kernel
theorem dX8_squeeze_11 : decode cX8_squeeze 11 = .ok (.invokevirtual 215, 3) := by decide +kernel
theorem dX8_squeeze_14 : decode cX8_squeeze 14 = .ok (.aload_n 0, 1) := by decide +kernel
theorem dX8_squeeze_15 : decode cX8_squeeze 15 = .ok (.getfield 79, 3) := by decide +kernel
theorem dX8_squeeze_18 : decode cX8_squeeze 18 = .ok (.invokevirtual 221, 3) := by decide +kernel
theorem dX8_squeeze_21 : decode cX8_squeeze 21 = .ok (.i2l, 1) := by decide +kernel
theorem dX8_squeeze_22 : decode cX8_squeeze 22 = .ok (.aload_n 0, 1) := by decide +kernel
theorem dX8_squeeze_23 : decode cX8_squeeze 23 = .ok (.getfield 79, 3) := by decide +kernel
theorem dX8_squeeze_26 : decode cX8_squeeze 26 = .ok (.invokevirtual 224, 3) := by decide +kernel
theorem dX8_squeeze_29 : decode cX8_squeeze 29 = .ok (.i2l, 1) := by decide +kernel
theorem dX8_squeeze_30 : decode cX8_squeeze 30 = .ok (.iload_n 1, 1) := by decide +kernel
theorem dX8_squeeze_31 : decode cX8_squeeze 31 = .ok (.invokestatic 183, 3) := by decide +kernel
theorem dX8_squeeze_34 : decode cX8_squeeze 34 = .ok (.l2i, 1) := by decide +kernel
theorem dX8_squeeze_35 : decode cX8_squeeze 35 = .ok (.ireturn, 1) := by decide +kernel
theorem dX8_train_0 : decode cX8_train 0 = .ok (.iload_n 1, 1) := by decide +kernel
theorem dX8_train_1 : decode cX8_train 1 = .ok (.invokestatic 227, 3) := by decide +kernel
theorem dX8_train_4 : decode cX8_train 4 = .ok (.ifCond .ne 6, 3) := by decide +kernel
theorem dX8_train_7 : decode cX8_train 7 = .ok (.bipush (-2), 2) := by decide +kernel
theorem dX8_train_9 : decode cX8_train 9 = .ok (.ireturn, 1) := by decide +kernel
theorem dX8_train_10 : decode cX8_train 10 = .ok (.aload_n 0, 1) := by decide +kernel
theorem dX8_train_11 : decode cX8_train 11 = .ok (.getfield 86, 3) := by decide +kernel
theorem dX8_train_14 : decode cX8_train 14 = .ok (.invokevirtual 230, 3) := by decide +kernel
theorem dX8_train_17 : decode cX8_train 17 = .ok (.ifCond .eq 6, 3) := by decide +kernel
theorem dX8_train_20 : decode cX8_train 20 = .ok (.bipush (-4), 2) := by decide +kernel
theorem dX8_train_22 : decode cX8_train 22 = .ok (.ireturn, 1) := by decide +kernel
theorem dX8_train_23 : decode cX8_train 23 = .ok (.aload_n 0, 1) := by decide +kernel
theorem dX8_train_24 : decode cX8_train 24 = .ok (.getfield 86, 3) := by decide +kernel
theorem dX8_train_27 : decode cX8_train 27 = .ok (.iload_n 1, 1) := by decide +kernel
theorem dX8_train_28 : decode cX8_train 28 = .ok (.invokevirtual 231, 3) := by decide +kernel
theorem dX8_train_31 : decode cX8_train 31 = .ok (.aload_n 0, 1) := by decide +kernel
theorem dX8_train_32 : decode cX8_train 32 = .ok (.getfield 86, 3) := by decide +kernel
theorem dX8_train_35 : decode cX8_train 35 = .ok (.invokevirtual 234, 3) := by decide +kernel
theorem dX8_train_38 : decode cX8_train 38 = .ok (.ireturn, 1) := by decide +kernel
theorem dX8_back_0 : decode cX8_back 0 = .ok (.aload_n 0, 1) := by decide +kernel
theorem dX8_back_1 : decode cX8_back 1 = .ok (.getfield 86, 3) := by decide +kernel
theorem dX8_back_4 : decode cX8_back 4 = .ok (.invokevirtual 234, 3) := by decide +kernel
theorem dX8_back_7 : decode cX8_back 7 = .ok (.ifCond .ne 6, 3) := by decide +kernel
theorem dX8_back_10 : decode cX8_back 10 = .ok (.bipush (-3), 2) := by decide +kernel
theorem dX8_back_12 : decode cX8_back 12 = .ok (.ireturn, 1) := by decide +kernel
theorem dX8_back_13 : decode cX8_back 13 = .ok (.aload_n 0, 1) := by decide +kernel
theorem dX8_back_14 : decode cX8_back 14 = .ok (.getfield 86, 3) := by decide +kernel
theorem dX8_back_17 : decode cX8_back 17 = .ok (.invokevirtual 235, 3) := by decide +kernel
theorem dX8_back_20 : decode cX8_back 20 = .ok (.aload_n 0, 1) := by decide +kernel
theorem dX8_back_21 : decode cX8_back 21 = .ok (.getfield 86, 3) := by decide +kernel
theorem dX8_back_24 : decode cX8_back 24 = .ok (.invokevirtual 234, 3) := by decide +kernel
theorem dX8_back_27 : decode cX8_back 27 = .ok (.ireturn, 1) := by decide +kernel
theorem dX8_read_0 : decode cX8_read 0 = .ok (.aload_n 0, 1) := by decide +kernel
theorem dX8_read_1 : decode cX8_read 1 = .ok (.iload_n 1, 1) := by decide +kernel
theorem dX8_read_2 : decode cX8_read 2 = .ok (.invokevirtual 238, 3) := by decide +kernel
theorem dX8_read_5 : decode cX8_read 5 = .ok (.astore_n 2, 1) := by decide +kernel
theorem dX8_read_6 : decode cX8_read 6 = .ok (.aload_n 2, 1) := by decide +kernel
theorem dX8_read_7 : decode cX8_read 7 = .ok (.ifnonnull 6, 3) := by decide +kernel
theorem dX8_read_10 : decode cX8_read 10 = .ok (.bipush (-2), 2) := by decide +kernel
theorem dX8_read_12 : decode cX8_read 12 = .ok (.ireturn, 1) := by decide +kernel
theorem dX8_read_13 : decode cX8_read 13 = .ok (.aload_n 2, 1) := by decide +kernel
theorem dX8_read_14 : decode cX8_read 14 = .ok (.invokevirtual 242, 3) := by decide +kernel
theorem dX8_read_17 : decode cX8_read 17 = .ok (.ifCond .eq 9, 3) := by decide +kernel
theorem dX8_read_20 : decode cX8_read 20 = .ok (.aload_n 0, 1) := by decide +kernel
theorem dX8_read_21 : decode cX8_read 21 = .ok (.iconst 1, 1) := by decide +kernel
theorem dX8_read_22 : decode cX8_read 22 = .ok (.invokevirtual 245, 3) := by decide +kernel
theorem dX8_read_25 : decode cX8_read 25 = .ok (.ireturn, 1) := by decide +kernel
theorem dX8_read_26 : decode cX8_read 26 = .ok (.iconst 0, 1) := by decide +kernel
theorem dX8_read_27 : decode cX8_read 27 = .ok (.istore_n 3, 1) := by decide +kernel
theorem dX8_read_28 : decode cX8_read 28 = .ok (.iload_n 3, 1) := by decide +kernel
theorem dX8_read_29 : decode cX8_read 29 = .ok (.aload_n 2, 1) := by decide +kernel
theorem dX8_read_30 : decode cX8_read 30 = .ok (.invokevirtual 248, 3) := by decide +kernel
theorem dX8_read_33 : decode cX8_read 33 = .ok (.if_icmp .ge 42, 3) := by decide +kernel
theorem dX8_read_36 : decode cX8_read 36 = .ok (.aload_n 0, 1) := by decide +kernel
theorem dX8_read_37 : decode cX8_read 37 = .ok (.getfield 86, 3) := by decide +kernel
theorem dX8_read_40 : decode cX8_read 40 = .ok (.invokevirtual 230, 3) := by decide +kernel
theorem dX8_read_43 : decode cX8_read 43 = .ok (.ifCond .ne 32, 3) := by decide +kernel
theorem dX8_read_46 : decode cX8_read 46 = .ok (.aload_n 2, 1) := by decide +kernel
theorem dX8_read_47 : decode cX8_read 47 = .ok (.iload_n 3, 1) := by decide +kernel
theorem dX8_read_48 : decode cX8_read 48 = .ok (.invokevirtual 249, 3) := by decide +kernel
theorem dX8_read_51 : decode cX8_read 51 = .ok (.invokestatic 227, 3) := by decide +kernel
theorem dX8_read_54 : decode cX8_read 54 = .ok (.ifCond .eq 21, 3) := by decide +kernel
theorem dX8_read_57 : decode cX8_read 57 = .ok (.aload_n 0, 1) := by decide +kernel
theorem dX8_read_58 : decode cX8_read 58 = .ok (.getfield 86, 3) := by decide +kernel
theorem dX8_read_61 : decode cX8_read 61 = .ok (.aload_n 2, 1) := by decide +kernel
theorem dX8_read_62 : decode cX8_read 62 = .ok (.iload_n 3, 1) := by decide +kernel
theorem dX8_read_63 : decode cX8_read 63 = .ok (.invokevirtual 249, 3) := by decide +kernel
theorem dX8_read_66 : decode cX8_read 66 = .ok (.invokevirtual 231, 3) := by decide +kernel
theorem dX8_read_69 : decode cX8_read 69 = .ok (.iinc 3 1, 3) := by decide +kernel
theorem dX8_read_72 : decode cX8_read 72 = .ok (.goto (-44), 3) := by decide +kernel
theorem dX8_read_75 : decode cX8_read 75 = .ok (.iload_n 3, 1) := by decide +kernel
theorem dX8_read_76 : decode cX8_read 76 = .ok (.ireturn, 1) := by decide +kernel
theorem dX8_late_0 : decode cX8_late 0 = .ok (.iload_n 1, 1) := by decide +kernel
theorem dX8_late_1 : decode cX8_late 1 = .ok (.iconst 1, 1) := by decide +kernel
theorem dX8_late_2 : decode cX8_late 2 = .ok (.if_icmp .lt 16, 3) := by decide +kernel
theorem dX8_late_5 : decode cX8_late 5 = .ok (.iload_n 1, 1) := by decide +kernel
theorem dX8_late_6 : decode cX8_late 6 = .ok (.bipush 6, 2) := by decide +kernel
theorem dX8_late_8 : decode cX8_late 8 = .ok (.if_icmp .gt 10, 3) := by decide +kernel
theorem dX8_late_11 : decode cX8_late 11 = .ok (.iload_n 2, 1) := by decide +kernel
theorem dX8_late_12 : decode cX8_late 12 = .ok (.invokestatic 132, 3) := by decide +kernel
theorem dX8_late_15 : decode cX8_late 15 = .ok (.ifCond .ne 6, 3) := by decide +kernel
theorem dX8_late_18 : decode cX8_late 18 = .ok (.bipush (-2), 2) := by decide +kernel
theorem dX8_late_20 : decode cX8_late 20 = .ok (.ireturn, 1) := by decide +kernel
theorem dX8_late_21 : decode cX8_late 21 = .ok (.aload_n 0, 1) := by decide +kernel
theorem dX8_late_22 : decode cX8_late 22 = .ok (.getfield 86, 3) := by decide +kernel
theorem dX8_late_25 : decode cX8_late 25 = .ok (.iload_n 1, 1) := by decide +kernel
theorem dX8_late_26 : decode cX8_late 26 = .ok (.aload_n 0, 1) := by decide +kernel
theorem dX8_late_27 : decode cX8_late 27 = .ok (.invokevirtual 252, 3) := by decide +kernel
theorem dX8_late_30 : decode cX8_late 30 = .ok (.invokevirtual 255, 3) := by decide +kernel
theorem dX8_late_33 : decode cX8_late 33 = .ok (.iload_n 2, 1) := by decide +kernel
theorem dX8_late_34 : decode cX8_late 34 = .ok (.ifCond .ne 13, 3) := by decide +kernel
theorem dX8_late_37 : decode cX8_late 37 = .ok (.aload_n 0, 1) := by decide +kernel
theorem dX8_late_38 : decode cX8_late 38 = .ok (.getfield 86, 3) := by decide +kernel
theorem dX8_late_41 : decode cX8_late 41 = .ok (.invokevirtual 259, 3) := by decide +kernel
theorem dX8_late_44 : decode cX8_late 44 = .ok (.goto 10, 3) := by decide +kernel
theorem dX8_late_47 : decode cX8_late 47 = .ok (.aload_n 0, 1) := by decide +kernel
theorem dX8_late_48 : decode cX8_late 48 = .ok (.getfield 86, 3) := by decide +kernel
theorem dX8_late_51 : decode cX8_late 51 = .ok (.invokevirtual 262, 3) := by decide +kernel
theorem dX8_late_54 : decode cX8_late 54 = .ok (.ireturn, 1) := by decide +kernel
theorem dX8_enough_0 : decode cX8_enough 0 = .ok (.iload_n 1, 1) := by decide +kernel
theorem dX8_enough_1 : decode cX8_enough 1 = .ok (.ifCond .lt 10, 3) := by decide +kernel
theorem dX8_enough_4 : decode cX8_enough 4 = .ok (.iload_n 1, 1) := by decide +kernel
theorem dX8_enough_5 : decode cX8_enough 5 = .ok (.sipush 999, 3) := by decide +kernel
theorem dX8_enough_8 : decode cX8_enough 8 = .ok (.if_icmp .le 6, 3) := by decide +kernel
theorem dX8_enough_11 : decode cX8_enough 11 = .ok (.bipush (-2), 2) := by decide +kernel
theorem dX8_enough_13 : decode cX8_enough 13 = .ok (.ireturn, 1) := by decide +kernel
theorem dX8_enough_14 : decode cX8_enough 14 = .ok (.iconst 1, 1) := by decide +kernel
theorem dX8_enough_15 : decode cX8_enough 15 = .ok (.istore_n 2, 1) := by decide +kernel
theorem dX8_enough_16 : decode cX8_enough 16 = .ok (.iload_n 2, 1) := by decide +kernel
theorem dX8_enough_17 : decode cX8_enough 17 = .ok (.bipush 6, 2) := by decide +kernel
theorem dX8_enough_19 : decode cX8_enough 19 = .ok (.if_icmp .gt 34, 3) := by decide +kernel
theorem dX8_enough_22 : decode cX8_enough 22 = .ok (.aload_n 0, 1) := by decide +kernel
theorem dX8_enough_23 : decode cX8_enough 23 = .ok (.getfield 86, 3) := by decide +kernel
theorem dX8_enough_26 : decode cX8_enough 26 = .ok (.iload_n 2, 1) := by decide +kernel
theorem dX8_enough_27 : decode cX8_enough 27 = .ok (.aload_n 0, 1) := by decide +kernel
theorem dX8_enough_28 : decode cX8_enough 28 = .ok (.invokevirtual 252, 3) := by decide +kernel
theorem dX8_enough_31 : decode cX8_enough 31 = .ok (.invokevirtual 255, 3) := by decide +kernel
theorem dX8_enough_34 : decode cX8_enough 34 = .ok (.aload_n 0, 1) := by decide +kernel
theorem dX8_enough_35 : decode cX8_enough 35 = .ok (.getfield 86, 3) := by decide +kernel
theorem dX8_enough_38 : decode cX8_enough 38 = .ok (.invokevirtual 262, 3) := by decide +kernel
theorem dX8_enough_41 : decode cX8_enough 41 = .ok (.iload_n 1, 1) := by decide +kernel
theorem dX8_enough_42 : decode cX8_enough 42 = .ok (.if_icmp .gt 5, 3) := by decide +kernel
theorem dX8_enough_45 : decode cX8_enough 45 = .ok (.iload_n 2, 1) := by decide +kernel
theorem dX8_enough_46 : decode cX8_enough 46 = .ok (.ireturn, 1) := by decide +kernel
theorem dX8_enough_47 : decode cX8_enough 47 = .ok (.iinc 2 1, 3) := by decide +kernel
theorem dX8_enough_50 : decode cX8_enough 50 = .ok (.goto (-34), 3) := by decide +kernel
theorem dX8_enough_53 : decode cX8_enough 53 = .ok (.iconst (-1), 1) := by decide +kernel
theorem dX8_enough_54 : decode cX8_enough 54 = .ok (.ireturn, 1) := by decide +kernel
theorem dX8_whistles_0 : decode cX8_whistles 0 = .ok (.iload_n 1, 1) := by decide +kernel
theorem dX8_whistles_1 : decode cX8_whistles 1 = .ok (.ifCond .lt 23, 3) := by decide +kernel
theorem dX8_whistles_4 : decode cX8_whistles 4 = .ok (.iload_n 1, 1) := by decide +kernel
theorem dX8_whistles_5 : decode cX8_whistles 5 = .ok (.bipush 9, 2) := by decide +kernel
theorem dX8_whistles_7 : decode cX8_whistles 7 = .ok (.if_icmp .gt 17, 3) := by decide +kernel
theorem dX8_whistles_10 : decode cX8_whistles 10 = .ok (.iload_n 2, 1) := by decide +kernel
theorem dX8_whistles_11 : decode cX8_whistles 11 = .ok (.ifCond .lt 13, 3) := by decide +kernel
theorem dX8_whistles_14 : decode cX8_whistles 14 = .ok (.iload_n 2, 1) := by decide +kernel
theorem dX8_whistles_15 : decode cX8_whistles 15 = .ok (.bipush 16, 2) := by decide +kernel
theorem dX8_whistles_17 : decode cX8_whistles 17 = .ok (.if_icmp .gt 7, 3) := by decide +kernel
theorem dX8_whistles_20 : decode cX8_whistles 20 = .ok (.iconst 1, 1) := by decide +kernel
theorem dX8_whistles_21 : decode cX8_whistles 21 = .ok (.goto 4, 3) := by decide +kernel
theorem dX8_whistles_24 : decode cX8_whistles 24 = .ok (.iconst 0, 1) := by decide +kernel
theorem dX8_whistles_25 : decode cX8_whistles 25 = .ok (.istore 5, 2) := by decide +kernel
theorem dX8_whistles_27 : decode cX8_whistles 27 = .ok (.iload 5, 2) := by decide +kernel
theorem dX8_whistles_29 : decode cX8_whistles 29 = .ok (.ifCond .eq 20, 3) := by decide +kernel
theorem dX8_whistles_32 : decode cX8_whistles 32 = .ok (.iload_n 3, 1) := by decide +kernel
theorem dX8_whistles_33 : decode cX8_whistles 33 = .ok (.ifCond .lt 16, 3) := by decide +kernel
theorem dX8_whistles_36 : decode cX8_whistles 36 = .ok (.iload_n 3, 1) := by decide +kernel
theorem dX8_whistles_37 : decode cX8_whistles 37 = .ok (.iload_n 1, 1) := by decide +kernel
theorem dX8_whistles_38 : decode cX8_whistles 38 = .ok (.if_icmp .gt 11, 3) := by decide +kernel
theorem dX8_whistles_41 : decode cX8_whistles 41 = .ok (.iload 4, 2) := by decide +kernel
theorem dX8_whistles_43 : decode cX8_whistles 43 = .ok (.invokestatic 132, 3) := by decide +kernel
theorem dX8_whistles_46 : decode cX8_whistles 46 = .ok (.ifCond .ne 9, 3) := by decide +kernel
theorem dX8_whistles_49 : decode cX8_whistles 49 = .ok (.bipush (-2), 2) := by decide +kernel
theorem dX8_whistles_51 : decode cX8_whistles 51 = .ok (.invokestatic 172, 3) := by decide +kernel
theorem dX8_whistles_54 : decode cX8_whistles 54 = .ok (.lreturn, 1) := by decide +kernel
theorem dX8_whistles_55 : decode cX8_whistles 55 = .ok (.iload_n 2, 1) := by decide +kernel
theorem dX8_whistles_56 : decode cX8_whistles 56 = .ok (.iload_n 3, 1) := by decide +kernel
theorem dX8_whistles_57 : decode cX8_whistles 57 = .ok (.invokestatic 265, 3) := by decide +kernel
theorem dX8_whistles_60 : decode cX8_whistles 60 = .ok (.lstore 6, 2) := by decide +kernel
theorem dX8_whistles_62 : decode cX8_whistles 62 = .ok (.bipush 16, 2) := by decide +kernel
theorem dX8_whistles_64 : decode cX8_whistles 64 = .ok (.iload_n 2, 1) := by decide +kernel
theorem dX8_whistles_65 : decode cX8_whistles 65 = .ok (.isub, 1) := by decide +kernel
theorem dX8_whistles_66 : decode cX8_whistles 66 = .ok (.iload_n 1, 1) := by decide +kernel
theorem dX8_whistles_67 : decode cX8_whistles 67 = .ok (.iload_n 3, 1) := by decide +kernel
theorem dX8_whistles_68 : decode cX8_whistles 68 = .ok (.isub, 1) := by decide +kernel
theorem dX8_whistles_69 : decode cX8_whistles 69 = .ok (.invokestatic 265, 3) := by decide +kernel
theorem dX8_whistles_72 : decode cX8_whistles 72 = .ok (.lstore 8, 2) := by decide +kernel
theorem dX8_whistles_74 : decode cX8_whistles 74 = .ok (.iload_n 1, 1) := by decide +kernel
theorem dX8_whistles_75 : decode cX8_whistles 75 = .ok (.iload_n 3, 1) := by decide +kernel
theorem dX8_whistles_76 : decode cX8_whistles 76 = .ok (.invokestatic 269, 3) := by decide +kernel
theorem dX8_whistles_79 : decode cX8_whistles 79 = .ok (.lload 6, 2) := by decide +kernel
theorem dX8_whistles_81 : decode cX8_whistles 81 = .ok (.lmul, 1) := by decide +kernel
theorem dX8_whistles_82 : decode cX8_whistles 82 = .ok (.lload 8, 2) := by decide +kernel
theorem dX8_whistles_84 : decode cX8_whistles 84 = .ok (.lmul, 1) := by decide +kernel
theorem dX8_whistles_85 : decode cX8_whistles 85 = .ok (.bipush 16, 2) := by decide +kernel
theorem dX8_whistles_87 : decode cX8_whistles 87 = .ok (.iload_n 1, 1) := by decide +kernel
theorem dX8_whistles_88 : decode cX8_whistles 88 = .ok (.invokestatic 265, 3) := by decide +kernel
theorem dX8_whistles_91 : decode cX8_whistles 91 = .ok (.iload 4, 2) := by decide +kernel
theorem dX8_whistles_93 : decode cX8_whistles 93 = .ok (.invokestatic 183, 3) := by decide +kernel
theorem dX8_whistles_96 : decode cX8_whistles 96 = .ok (.lreturn, 1) := by decide +kernel
theorem dX8_words_0 : decode cX8_words 0 = .ok (.iload_n 1, 1) := by decide +kernel
theorem dX8_words_1 : decode cX8_words 1 = .ok (.ifCond .lt 9, 3) := by decide +kernel
theorem dX8_words_4 : decode cX8_words 4 = .ok (.iload_n 1, 1) := by decide +kernel
theorem dX8_words_5 : decode cX8_words 5 = .ok (.bipush 9, 2) := by decide +kernel
theorem dX8_words_7 : decode cX8_words 7 = .ok (.if_icmp .le 6, 3) := by decide +kernel
theorem dX8_words_10 : decode cX8_words 10 = .ok (.bipush (-2), 2) := by decide +kernel
theorem dX8_words_12 : decode cX8_words 12 = .ok (.ireturn, 1) := by decide +kernel
theorem dX8_words_13 : decode cX8_words 13 = .ok (.iconst 1, 1) := by decide +kernel
theorem dX8_words_14 : decode cX8_words 14 = .ok (.bipush 8, 2) := by decide +kernel
theorem dX8_words_16 : decode cX8_words 16 = .ok (.iload_n 1, 1) := by decide +kernel
theorem dX8_words_17 : decode cX8_words 17 = .ok (.iconst 1, 1) := by decide +kernel
theorem dX8_words_18 : decode cX8_words 18 = .ok (.iadd, 1) := by decide +kernel
theorem dX8_words_19 : decode cX8_words 19 = .ok (.idiv, 1) := by decide +kernel
theorem dX8_words_20 : decode cX8_words 20 = .ok (.iadd, 1) := by decide +kernel
theorem dX8_words_21 : decode cX8_words 21 = .ok (.ireturn, 1) := by decide +kernel
theorem dX8_sheet_0 : decode cX8_sheet 0 = .ok (.aload_n 0, 1) := by decide +kernel
theorem dX8_sheet_1 : decode cX8_sheet 1 = .ok (.iload_n 1, 1) := by decide +kernel
theorem dX8_sheet_2 : decode cX8_sheet 2 = .ok (.invokevirtual 238, 3) := by decide +kernel
theorem dX8_sheet_5 : decode cX8_sheet 5 = .ok (.astore 4, 2) := by decide +kernel
theorem dX8_sheet_7 : decode cX8_sheet 7 = .ok (.aload 4, 2) := by decide +kernel
theorem dX8_sheet_9 : decode cX8_sheet 9 = .ok (.ifnull 16, 3) := by decide +kernel
theorem dX8_sheet_12 : decode cX8_sheet 12 = .ok (.iload_n 2, 1) := by decide +kernel
theorem dX8_sheet_13 : decode cX8_sheet 13 = .ok (.invokestatic 272, 3) := by decide +kernel
theorem dX8_sheet_16 : decode cX8_sheet 16 = .ok (.ifCond .eq 9, 3) := by decide +kernel
theorem dX8_sheet_19 : decode cX8_sheet 19 = .ok (.iload_n 3, 1) := by decide +kernel
theorem dX8_sheet_20 : decode cX8_sheet 20 = .ok (.bipush 60, 2) := by decide +kernel
theorem dX8_sheet_22 : decode cX8_sheet 22 = .ok (.if_icmp .le 6, 3) := by decide +kernel
theorem dX8_sheet_25 : decode cX8_sheet 25 = .ok (.bipush (-2), 2) := by decide +kernel
theorem dX8_sheet_27 : decode cX8_sheet 27 = .ok (.ireturn, 1) := by decide +kernel
theorem dX8_sheet_28 : decode cX8_sheet 28 = .ok (.iload_n 3, 1) := by decide +kernel
theorem dX8_sheet_29 : decode cX8_sheet 29 = .ok (.ifCond .ge 9, 3) := by decide +kernel
theorem dX8_sheet_32 : decode cX8_sheet 32 = .ok (.aload_n 0, 1) := by decide +kernel
theorem dX8_sheet_33 : decode cX8_sheet 33 = .ok (.iconst 5, 1) := by decide +kernel
theorem dX8_sheet_34 : decode cX8_sheet 34 = .ok (.invokevirtual 245, 3) := by decide +kernel
theorem dX8_sheet_37 : decode cX8_sheet 37 = .ok (.ireturn, 1) := by decide +kernel
theorem dX8_sheet_38 : decode cX8_sheet 38 = .ok (.aload 4, 2) := by decide +kernel
theorem dX8_sheet_40 : decode cX8_sheet 40 = .ok (.iload_n 2, 1) := by decide +kernel
theorem dX8_sheet_41 : decode cX8_sheet 41 = .ok (.iload_n 3, 1) := by decide +kernel
theorem dX8_sheet_42 : decode cX8_sheet 42 = .ok (.invokevirtual 275, 3) := by decide +kernel
theorem dX8_sheet_45 : decode cX8_sheet 45 = .ok (.iload_n 3, 1) := by decide +kernel
theorem dX8_sheet_46 : decode cX8_sheet 46 = .ok (.ireturn, 1) := by decide +kernel
theorem dX8_lose_0 : decode cX8_lose 0 = .ok (.aload_n 0, 1) := by decide +kernel
theorem dX8_lose_1 : decode cX8_lose 1 = .ok (.iload_n 1, 1) := by decide +kernel
theorem dX8_lose_2 : decode cX8_lose 2 = .ok (.invokevirtual 238, 3) := by decide +kernel
theorem dX8_lose_5 : decode cX8_lose 5 = .ok (.astore_n 2, 1) := by decide +kernel
theorem dX8_lose_6 : decode cX8_lose 6 = .ok (.aload_n 2, 1) := by decide +kernel
theorem dX8_lose_7 : decode cX8_lose 7 = .ok (.ifnonnull 6, 3) := by decide +kernel
theorem dX8_lose_10 : decode cX8_lose 10 = .ok (.bipush (-2), 2) := by decide +kernel
theorem dX8_lose_12 : decode cX8_lose 12 = .ok (.ireturn, 1) := by decide +kernel
theorem dX8_lose_13 : decode cX8_lose 13 = .ok (.aload_n 2, 1) := by decide +kernel
theorem dX8_lose_14 : decode cX8_lose 14 = .ok (.invokevirtual 242, 3) := by decide +kernel
theorem dX8_lose_17 : decode cX8_lose 17 = .ok (.ifCond .eq 9, 3) := by decide +kernel
theorem dX8_lose_20 : decode cX8_lose 20 = .ok (.aload_n 0, 1) := by decide +kernel
theorem dX8_lose_21 : decode cX8_lose 21 = .ok (.iconst 1, 1) := by decide +kernel
theorem dX8_lose_22 : decode cX8_lose 22 = .ok (.invokevirtual 245, 3) := by decide +kernel
theorem dX8_lose_25 : decode cX8_lose 25 = .ok (.ireturn, 1) := by decide +kernel
theorem dX8_lose_26 : decode cX8_lose 26 = .ok (.aload_n 2, 1) := by decide +kernel
theorem dX8_lose_27 : decode cX8_lose 27 = .ok (.invokevirtual 248, 3) := by decide +kernel
theorem dX8_lose_30 : decode cX8_lose 30 = .ok (.istore_n 3, 1) := by decide +kernel
theorem dX8_lose_31 : decode cX8_lose 31 = .ok (.aload_n 2, 1) := by decide +kernel
theorem dX8_lose_32 : decode cX8_lose 32 = .ok (.invokevirtual 278, 3) := by decide +kernel
theorem dX8_lose_35 : decode cX8_lose 35 = .ok (.iload_n 3, 1) := by decide +kernel
theorem dX8_lose_36 : decode cX8_lose 36 = .ok (.ireturn, 1) := by decide +kernel
theorem dX8_lay_0 : decode cX8_lay 0 = .ok (.aload_n 0, 1) := by decide +kernel
theorem dX8_lay_1 : decode cX8_lay 1 = .ok (.iload_n 1, 1) := by decide +kernel
theorem dX8_lay_2 : decode cX8_lay 2 = .ok (.invokevirtual 238, 3) := by decide +kernel
theorem dX8_lay_5 : decode cX8_lay 5 = .ok (.astore 5, 2) := by decide +kernel
theorem dX8_lay_7 : decode cX8_lay 7 = .ok (.aload 5, 2) := by decide +kernel
theorem dX8_lay_9 : decode cX8_lay 9 = .ok (.ifnull 10, 3) := by decide +kernel
theorem dX8_lay_12 : decode cX8_lay 12 = .ok (.iload_n 2, 1) := by decide +kernel
theorem dX8_lay_13 : decode cX8_lay 13 = .ok (.invokestatic 272, 3) := by decide +kernel
theorem dX8_lay_16 : decode cX8_lay 16 = .ok (.ifCond .ne 6, 3) := by decide +kernel
theorem dX8_lay_19 : decode cX8_lay 19 = .ok (.bipush (-2), 2) := by decide +kernel
theorem dX8_lay_21 : decode cX8_lay 21 = .ok (.ireturn, 1) := by decide +kernel
theorem dX8_lay_22 : decode cX8_lay 22 = .ok (.aload 5, 2) := by decide +kernel
theorem dX8_lay_24 : decode cX8_lay 24 = .ok (.iload_n 2, 1) := by decide +kernel
theorem dX8_lay_25 : decode cX8_lay 25 = .ok (.iload_n 3, 1) := by decide +kernel
theorem dX8_lay_26 : decode cX8_lay 26 = .ok (.invokestatic 281, 3) := by decide +kernel
theorem dX8_lay_29 : decode cX8_lay 29 = .ok (.istore 6, 2) := by decide +kernel
theorem dX8_lay_31 : decode cX8_lay 31 = .ok (.iload 6, 2) := by decide +kernel
theorem dX8_lay_33 : decode cX8_lay 33 = .ok (.ifCond .eq 10, 3) := by decide +kernel
theorem dX8_lay_36 : decode cX8_lay 36 = .ok (.aload_n 0, 1) := by decide +kernel
theorem dX8_lay_37 : decode cX8_lay 37 = .ok (.iload 6, 2) := by decide +kernel
theorem dX8_lay_39 : decode cX8_lay 39 = .ok (.invokevirtual 245, 3) := by decide +kernel
theorem dX8_lay_42 : decode cX8_lay 42 = .ok (.ireturn, 1) := by decide +kernel
theorem dX8_lay_43 : decode cX8_lay 43 = .ok (.aload 5, 2) := by decide +kernel
theorem dX8_lay_45 : decode cX8_lay 45 = .ok (.iload_n 3, 1) := by decide +kernel
theorem dX8_lay_46 : decode cX8_lay 46 = .ok (.iload 4, 2) := by decide +kernel
theorem dX8_lay_48 : decode cX8_lay 48 = .ok (.invokevirtual 285, 3) := by decide +kernel
theorem dX8_lay_51 : decode cX8_lay 51 = .ok (.iconst 1, 1) := by decide +kernel
theorem dX8_lay_52 : decode cX8_lay 52 = .ok (.ireturn, 1) := by decide +kernel
theorem dX8_get_0 : decode cX8_get 0 = .ok (.aload_n 0, 1) := by decide +kernel
theorem dX8_get_1 : decode cX8_get 1 = .ok (.iload_n 1, 1) := by decide +kernel
theorem dX8_get_2 : decode cX8_get 2 = .ok (.invokevirtual 238, 3) := by decide +kernel
theorem dX8_get_5 : decode cX8_get 5 = .ok (.astore 4, 2) := by decide +kernel
theorem dX8_get_7 : decode cX8_get 7 = .ok (.aload 4, 2) := by decide +kernel
theorem dX8_get_9 : decode cX8_get 9 = .ok (.ifnull 10, 3) := by decide +kernel
theorem dX8_get_12 : decode cX8_get 12 = .ok (.iload_n 2, 1) := by decide +kernel
theorem dX8_get_13 : decode cX8_get 13 = .ok (.invokestatic 272, 3) := by decide +kernel
theorem dX8_get_16 : decode cX8_get 16 = .ok (.ifCond .ne 7, 3) := by decide +kernel
theorem dX8_get_19 : decode cX8_get 19 = .ok (.ldc_w 288, 3) := by decide +kernel
theorem dX8_get_22 : decode cX8_get 22 = .ok (.ireturn, 1) := by decide +kernel
theorem dX8_get_23 : decode cX8_get 23 = .ok (.aload 4, 2) := by decide +kernel
theorem dX8_get_25 : decode cX8_get 25 = .ok (.iload_n 2, 1) := by decide +kernel
theorem dX8_get_26 : decode cX8_get 26 = .ok (.iload_n 3, 1) := by decide +kernel
theorem dX8_get_27 : decode cX8_get 27 = .ok (.invokestatic 281, 3) := by decide +kernel
theorem dX8_get_30 : decode cX8_get 30 = .ok (.istore 5, 2) := by decide +kernel
theorem dX8_get_32 : decode cX8_get 32 = .ok (.iload 5, 2) := by decide +kernel
theorem dX8_get_34 : decode cX8_get 34 = .ok (.ifCond .eq 14, 3) := by decide +kernel
theorem dX8_get_37 : decode cX8_get 37 = .ok (.aload_n 0, 1) := by decide +kernel
theorem dX8_get_38 : decode cX8_get 38 = .ok (.iload 5, 2) := by decide +kernel
theorem dX8_get_40 : decode cX8_get 40 = .ok (.invokevirtual 245, 3) := by decide +kernel
theorem dX8_get_43 : decode cX8_get 43 = .ok (.pop, 1) := by decide +kernel
theorem dX8_get_44 : decode cX8_get 44 = .ok (.ldc_w 288, 3) := by decide +kernel
theorem dX8_get_47 : decode cX8_get 47 = .ok (.ireturn, 1) := by decide +kernel
theorem dX8_get_48 : decode cX8_get 48 = .ok (.aload 4, 2) := by decide +kernel
theorem dX8_get_50 : decode cX8_get 50 = .ok (.iload_n 3, 1) := by decide +kernel
theorem dX8_get_51 : decode cX8_get 51 = .ok (.invokevirtual 249, 3) := by decide +kernel
theorem dX8_get_54 : decode cX8_get 54 = .ok (.ireturn, 1) := by decide +kernel
theorem dX8_copy_0 : decode cX8_copy 0 = .ok (.aload_n 0, 1) := by decide +kernel
theorem dX8_copy_1 : decode cX8_copy 1 = .ok (.iload_n 1, 1) := by decide +kernel
theorem dX8_copy_2 : decode cX8_copy 2 = .ok (.invokevirtual 238, 3) := by decide +kernel
theorem dX8_copy_5 : decode cX8_copy 5 = .ok (.astore 6, 2) := by decide +kernel
theorem dX8_copy_7 : decode cX8_copy 7 = .ok (.aload_n 0, 1) := by decide +kernel
theorem dX8_copy_8 : decode cX8_copy 8 = .ok (.iload_n 3, 1) := by decide +kernel
theorem dX8_copy_9 : decode cX8_copy 9 = .ok (.invokevirtual 238, 3) := by decide +kernel
theorem dX8_copy_12 : decode cX8_copy 12 = .ok (.astore 7, 2) := by decide +kernel
theorem dX8_copy_14 : decode cX8_copy 14 = .ok (.aload 6, 2) := by decide +kernel
theorem dX8_copy_16 : decode cX8_copy 16 = .ok (.ifnull 8, 3) := by decide +kernel
theorem dX8_copy_19 : decode cX8_copy 19 = .ok (.aload 7, 2) := by decide +kernel
theorem dX8_copy_21 : decode cX8_copy 21 = .ok (.ifnonnull 6, 3) := by decide +kernel
theorem dX8_copy_24 : decode cX8_copy 24 = .ok (.bipush (-2), 2) := by decide +kernel
theorem dX8_copy_26 : decode cX8_copy 26 = .ok (.ireturn, 1) := by decide +kernel
theorem dX8_copy_27 : decode cX8_copy 27 = .ok (.aload 6, 2) := by decide +kernel
theorem dX8_copy_29 : decode cX8_copy 29 = .ok (.invokevirtual 242, 3) := by decide +kernel
theorem dX8_copy_32 : decode cX8_copy 32 = .ok (.ifCond .ne 11, 3) := by decide +kernel
theorem dX8_copy_35 : decode cX8_copy 35 = .ok (.aload 7, 2) := by decide +kernel
theorem dX8_copy_37 : decode cX8_copy 37 = .ok (.invokevirtual 242, 3) := by decide +kernel
theorem dX8_copy_40 : decode cX8_copy 40 = .ok (.ifCond .eq 9, 3) := by decide +kernel
theorem dX8_copy_43 : decode cX8_copy 43 = .ok (.aload_n 0, 1) := by decide +kernel
theorem dX8_copy_44 : decode cX8_copy 44 = .ok (.iconst 1, 1) := by decide +kernel
theorem dX8_copy_45 : decode cX8_copy 45 = .ok (.invokevirtual 245, 3) := by decide +kernel
theorem dX8_copy_48 : decode cX8_copy 48 = .ok (.ireturn, 1) := by decide +kernel
theorem dX8_copy_49 : decode cX8_copy 49 = .ok (.aload 6, 2) := by decide +kernel
theorem dX8_copy_51 : decode cX8_copy 51 = .ok (.aload 7, 2) := by decide +kernel
theorem dX8_copy_53 : decode cX8_copy 53 = .ok (.invokevirtual 289, 3) := by decide +kernel
theorem dX8_copy_56 : decode cX8_copy 56 = .ok (.invokevirtual 292, 3) := by decide +kernel
theorem dX8_copy_59 : decode cX8_copy 59 = .ok (.ifCond .ne 9, 3) := by decide +kernel
theorem dX8_copy_62 : decode cX8_copy 62 = .ok (.aload_n 0, 1) := by decide +kernel
theorem dX8_copy_63 : decode cX8_copy 63 = .ok (.iconst 4, 1) := by decide +kernel
theorem dX8_copy_64 : decode cX8_copy 64 = .ok (.invokevirtual 245, 3) := by decide +kernel
theorem dX8_copy_67 : decode cX8_copy 67 = .ok (.ireturn, 1) := by decide +kernel
theorem dX8_copy_68 : decode cX8_copy 68 = .ok (.aload 6, 2) := by decide +kernel
theorem dX8_copy_70 : decode cX8_copy 70 = .ok (.iload_n 2, 1) := by decide +kernel
theorem dX8_copy_71 : decode cX8_copy 71 = .ok (.iload 5, 2) := by decide +kernel
theorem dX8_copy_73 : decode cX8_copy 73 = .ok (.invokevirtual 295, 3) := by decide +kernel
theorem dX8_copy_76 : decode cX8_copy 76 = .ok (.ifCond .eq 15, 3) := by decide +kernel
theorem dX8_copy_79 : decode cX8_copy 79 = .ok (.aload 7, 2) := by decide +kernel
theorem dX8_copy_81 : decode cX8_copy 81 = .ok (.iload 4, 2) := by decide +kernel
theorem dX8_copy_83 : decode cX8_copy 83 = .ok (.iload 5, 2) := by decide +kernel
theorem dX8_copy_85 : decode cX8_copy 85 = .ok (.invokevirtual 295, 3) := by decide +kernel
theorem dX8_copy_88 : decode cX8_copy 88 = .ok (.ifCond .ne 9, 3) := by decide +kernel
theorem dX8_copy_91 : decode cX8_copy 91 = .ok (.aload_n 0, 1) := by decide +kernel
theorem dX8_copy_92 : decode cX8_copy 92 = .ok (.iconst 2, 1) := by decide +kernel
theorem dX8_copy_93 : decode cX8_copy 93 = .ok (.invokevirtual 245, 3) := by decide +kernel
theorem dX8_copy_96 : decode cX8_copy 96 = .ok (.ireturn, 1) := by decide +kernel
theorem dX8_copy_97 : decode cX8_copy 97 = .ok (.aload 7, 2) := by decide +kernel
theorem dX8_copy_99 : decode cX8_copy 99 = .ok (.aload 6, 2) := by decide +kernel
theorem dX8_copy_101 : decode cX8_copy 101 = .ok (.iload_n 2, 1) := by decide +kernel
theorem dX8_copy_102 : decode cX8_copy 102 = .ok (.iload 4, 2) := by decide +kernel
theorem dX8_copy_104 : decode cX8_copy 104 = .ok (.iload 5, 2) := by decide +kernel
theorem dX8_copy_106 : decode cX8_copy 106 = .ok (.invokevirtual 298, 3) := by decide +kernel
theorem dX8_copy_109 : decode cX8_copy 109 = .ok (.iconst 1, 1) := by decide +kernel
theorem dX8_copy_110 : decode cX8_copy 110 = .ok (.ireturn, 1) := by decide +kernel
theorem dX8_write_0 : decode cX8_write 0 = .ok (.aload_n 0, 1) := by decide +kernel
theorem dX8_write_1 : decode cX8_write 1 = .ok (.iload_n 2, 1) := by decide +kernel
theorem dX8_write_2 : decode cX8_write 2 = .ok (.invokevirtual 238, 3) := by decide +kernel
theorem dX8_write_5 : decode cX8_write 5 = .ok (.astore_n 3, 1) := by decide +kernel
theorem dX8_write_6 : decode cX8_write 6 = .ok (.aload_n 3, 1) := by decide +kernel
theorem dX8_write_7 : decode cX8_write 7 = .ok (.ifnull 10, 3) := by decide +kernel
theorem dX8_write_10 : decode cX8_write 10 = .ok (.iload_n 1, 1) := by decide +kernel
theorem dX8_write_11 : decode cX8_write 11 = .ok (.invokestatic 142, 3) := by decide +kernel
theorem dX8_write_14 : decode cX8_write 14 = .ok (.ifCond .ne 6, 3) := by decide +kernel
theorem dX8_write_17 : decode cX8_write 17 = .ok (.bipush (-2), 2) := by decide +kernel
theorem dX8_write_19 : decode cX8_write 19 = .ok (.ireturn, 1) := by decide +kernel
theorem dX8_write_20 : decode cX8_write 20 = .ok (.aload_n 3, 1) := by decide +kernel
theorem dX8_write_21 : decode cX8_write 21 = .ok (.invokevirtual 242, 3) := by decide +kernel
theorem dX8_write_24 : decode cX8_write 24 = .ok (.ifCond .eq 9, 3) := by decide +kernel
theorem dX8_write_27 : decode cX8_write 27 = .ok (.aload_n 0, 1) := by decide +kernel
theorem dX8_write_28 : decode cX8_write 28 = .ok (.iconst 1, 1) := by decide +kernel
theorem dX8_write_29 : decode cX8_write 29 = .ok (.invokevirtual 245, 3) := by decide +kernel
theorem dX8_write_32 : decode cX8_write 32 = .ok (.ireturn, 1) := by decide +kernel
theorem dX8_write_33 : decode cX8_write 33 = .ok (.aload_n 3, 1) := by decide +kernel
theorem dX8_write_34 : decode cX8_write 34 = .ok (.invokevirtual 248, 3) := by decide +kernel
theorem dX8_write_37 : decode cX8_write 37 = .ok (.bipush 40, 2) := by decide +kernel
theorem dX8_write_39 : decode cX8_write 39 = .ok (.invokestatic 302, 3) := by decide +kernel
theorem dX8_write_42 : decode cX8_write 42 = .ok (.istore 4, 2) := by decide +kernel
theorem dX8_write_44 : decode cX8_write 44 = .ok (.iconst 0, 1) := by decide +kernel
theorem dX8_write_45 : decode cX8_write 45 = .ok (.istore 5, 2) := by decide +kernel
theorem dX8_write_47 : decode cX8_write 47 = .ok (.iload 5, 2) := by decide +kernel
theorem dX8_write_49 : decode cX8_write 49 = .ok (.iload 4, 2) := by decide +kernel
theorem dX8_write_51 : decode cX8_write 51 = .ok (.if_icmp .ge 25, 3) := by decide +kernel
theorem dX8_write_54 : decode cX8_write 54 = .ok (.aload_n 3, 1) := by decide +kernel
theorem dX8_write_55 : decode cX8_write 55 = .ok (.iload 5, 2) := by decide +kernel
theorem dX8_write_57 : decode cX8_write 57 = .ok (.aload_n 0, 1) := by decide +kernel
theorem dX8_write_58 : decode cX8_write 58 = .ok (.getfield 72, 3) := by decide +kernel
theorem dX8_write_61 : decode cX8_write 61 = .ok (.iload_n 1, 1) := by decide +kernel
theorem dX8_write_62 : decode cX8_write 62 = .ok (.iload 5, 2) := by decide +kernel
theorem dX8_write_64 : decode cX8_write 64 = .ok (.invokevirtual 160, 3) := by decide +kernel
theorem dX8_write_67 : decode cX8_write 67 = .ok (.invokevirtual 285, 3) := by decide +kernel
theorem dX8_write_70 : decode cX8_write 70 = .ok (.iinc 5 1, 3) := by decide +kernel
theorem dX8_write_73 : decode cX8_write 73 = .ok (.goto (-26), 3) := by decide +kernel
theorem dX8_write_76 : decode cX8_write 76 = .ok (.iload 4, 2) := by decide +kernel
theorem dX8_write_78 : decode cX8_write 78 = .ok (.ireturn, 1) := by decide +kernel
theorem dX8_count_0 : decode cX8_count 0 = .ok (.iload_n 1, 1) := by decide +kernel
theorem dX8_count_1 : decode cX8_count 1 = .ok (.tableswitch 121 0 8 #[51, 59, 67, 75, 83, 91, 99, 107, 116], 51) := by decide +kernel
theorem dX8_count_52 : decode cX8_count 52 = .ok (.aload_n 0, 1) := by decide +kernel
theorem dX8_count_53 : decode cX8_count 53 = .ok (.getfield 24, 3) := by decide +kernel
theorem dX8_count_56 : decode cX8_count 56 = .ok (.invokevirtual 126, 3) := by decide +kernel
theorem dX8_count_59 : decode cX8_count 59 = .ok (.ireturn, 1) := by decide +kernel
theorem dX8_count_60 : decode cX8_count 60 = .ok (.aload_n 0, 1) := by decide +kernel
theorem dX8_count_61 : decode cX8_count 61 = .ok (.getfield 31, 3) := by decide +kernel
theorem dX8_count_64 : decode cX8_count 64 = .ok (.invokevirtual 131, 3) := by decide +kernel
theorem dX8_count_67 : decode cX8_count 67 = .ok (.ireturn, 1) := by decide +kernel
theorem dX8_count_68 : decode cX8_count 68 = .ok (.aload_n 0, 1) := by decide +kernel
theorem dX8_count_69 : decode cX8_count 69 = .ok (.getfield 14, 3) := by decide +kernel
theorem dX8_count_72 : decode cX8_count 72 = .ok (.invokevirtual 115, 3) := by decide +kernel
theorem dX8_count_75 : decode cX8_count 75 = .ok (.ireturn, 1) := by decide +kernel
theorem dX8_count_76 : decode cX8_count 76 = .ok (.aload_n 0, 1) := by decide +kernel
theorem dX8_count_77 : decode cX8_count 77 = .ok (.getfield 18, 3) := by decide +kernel
theorem dX8_count_80 : decode cX8_count 80 = .ok (.invokevirtual 115, 3) := by decide +kernel
theorem dX8_count_83 : decode cX8_count 83 = .ok (.ireturn, 1) := by decide +kernel
theorem dX8_count_84 : decode cX8_count 84 = .ok (.aload_n 0, 1) := by decide +kernel
theorem dX8_count_85 : decode cX8_count 85 = .ok (.getfield 86, 3) := by decide +kernel
theorem dX8_count_88 : decode cX8_count 88 = .ok (.invokevirtual 234, 3) := by decide +kernel
theorem dX8_count_91 : decode cX8_count 91 = .ok (.ireturn, 1) := by decide +kernel
theorem dX8_count_92 : decode cX8_count 92 = .ok (.aload_n 0, 1) := by decide +kernel
theorem dX8_count_93 : decode cX8_count 93 = .ok (.getfield 24, 3) := by decide +kernel
theorem dX8_count_96 : decode cX8_count 96 = .ok (.invokevirtual 180, 3) := by decide +kernel
theorem dX8_count_99 : decode cX8_count 99 = .ok (.ireturn, 1) := by decide +kernel
theorem dX8_count_100 : decode cX8_count 100 = .ok (.aload_n 0, 1) := by decide +kernel
theorem dX8_count_101 : decode cX8_count 101 = .ok (.getfield 31, 3) := by decide +kernel
theorem dX8_count_104 : decode cX8_count 104 = .ok (.invokevirtual 307, 3) := by decide +kernel
theorem dX8_count_107 : decode cX8_count 107 = .ok (.ireturn, 1) := by decide +kernel
theorem dX8_count_108 : decode cX8_count 108 = .ok (.aload_n 0, 1) := by decide +kernel
theorem dX8_count_109 : decode cX8_count 109 = .ok (.getfield 66, 3) := by decide +kernel
theorem dX8_count_112 : decode cX8_count 112 = .ok (.iconst 4, 1) := by decide +kernel
theorem dX8_count_113 : decode cX8_count 113 = .ok (.invokevirtual 190, 3) := by decide +kernel
theorem dX8_count_116 : decode cX8_count 116 = .ok (.ireturn, 1) := by decide +kernel
theorem dX8_count_117 : decode cX8_count 117 = .ok (.aload_n 0, 1) := by decide +kernel
theorem dX8_count_118 : decode cX8_count 118 = .ok (.getfield 97, 3) := by decide +kernel
theorem dX8_count_121 : decode cX8_count 121 = .ok (.ireturn, 1) := by decide +kernel
theorem dX8_count_122 : decode cX8_count 122 = .ok (.bipush (-2), 2) := by decide +kernel
theorem dX8_count_124 : decode cX8_count 124 = .ok (.ireturn, 1) := by decide +kernel
theorem dX8_digest_0 : decode cX8_digest 0 = .ok (.ldc2_w 310, 3) := by decide +kernel
theorem dX8_digest_3 : decode cX8_digest 3 = .ok (.lstore_n 1, 1) := by decide +kernel
theorem dX8_digest_4 : decode cX8_digest 4 = .ok (.iconst 0, 1) := by decide +kernel
theorem dX8_digest_5 : decode cX8_digest 5 = .ok (.istore_n 3, 1) := by decide +kernel
theorem dX8_digest_6 : decode cX8_digest 6 = .ok (.iload_n 3, 1) := by decide +kernel
theorem dX8_digest_7 : decode cX8_digest 7 = .ok (.bipush 7, 2) := by decide +kernel
theorem dX8_digest_9 : decode cX8_digest 9 = .ok (.if_icmp .gt 20, 3) := by decide +kernel
theorem dX8_digest_12 : decode cX8_digest 12 = .ok (.lload_n 1, 1) := by decide +kernel
theorem dX8_digest_13 : decode cX8_digest 13 = .ok (.aload_n 0, 1) := by decide +kernel
theorem dX8_digest_14 : decode cX8_digest 14 = .ok (.iload_n 3, 1) := by decide +kernel
theorem dX8_digest_15 : decode cX8_digest 15 = .ok (.invokevirtual 312, 3) := by decide +kernel
theorem dX8_digest_18 : decode cX8_digest 18 = .ok (.i2l, 1) := by decide +kernel
theorem dX8_digest_19 : decode cX8_digest 19 = .ok (.invokestatic 315, 3) := by decide +kernel
theorem dX8_digest_22 : decode cX8_digest 22 = .ok (.lstore_n 1, 1) := by decide +kernel
theorem dX8_digest_23 : decode cX8_digest 23 = .ok (.iinc 3 1, 3) := by decide +kernel
theorem dX8_digest_26 : decode cX8_digest 26 = .ok (.goto (-20), 3) := by decide +kernel
theorem dX8_digest_29 : decode cX8_digest 29 = .ok (.lload_n 1, 1) := by decide +kernel
theorem dX8_digest_30 : decode cX8_digest 30 = .ok (.aload_n 0, 1) := by decide +kernel
theorem dX8_digest_31 : decode cX8_digest 31 = .ok (.iconst 0, 1) := by decide +kernel
theorem dX8_digest_32 : decode cX8_digest 32 = .ok (.invokevirtual 319, 3) := by decide +kernel
theorem dX8_digest_35 : decode cX8_digest 35 = .ok (.i2l, 1) := by decide +kernel
theorem dX8_digest_36 : decode cX8_digest 36 = .ok (.invokestatic 315, 3) := by decide +kernel
theorem dX8_digest_39 : decode cX8_digest 39 = .ok (.aload_n 0, 1) := by decide +kernel
theorem dX8_digest_40 : decode cX8_digest 40 = .ok (.iconst 1, 1) := by decide +kernel
theorem dX8_digest_41 : decode cX8_digest 41 = .ok (.invokevirtual 319, 3) := by decide +kernel
theorem dX8_digest_44 : decode cX8_digest 44 = .ok (.i2l, 1) := by decide +kernel
theorem dX8_digest_45 : decode cX8_digest 45 = .ok (.invokestatic 315, 3) := by decide +kernel
theorem dX8_digest_48 : decode cX8_digest 48 = .ok (.lstore_n 1, 1) := by decide +kernel
theorem dX8_digest_49 : decode cX8_digest 49 = .ok (.aload_n 0, 1) := by decide +kernel
theorem dX8_digest_50 : decode cX8_digest 50 = .ok (.aload_n 0, 1) := by decide +kernel
theorem dX8_digest_51 : decode cX8_digest 51 = .ok (.aload_n 0, 1) := by decide +kernel
theorem dX8_digest_52 : decode cX8_digest 52 = .ok (.lload_n 1, 1) := by decide +kernel
theorem dX8_digest_53 : decode cX8_digest 53 = .ok (.invokevirtual 322, 3) := by decide +kernel
theorem dX8_digest_56 : decode cX8_digest 56 = .ok (.invokevirtual 326, 3) := by decide +kernel
theorem dX8_digest_59 : decode cX8_digest 59 = .ok (.invokevirtual 329, 3) := by decide +kernel
theorem dX8_digest_62 : decode cX8_digest 62 = .ok (.lstore_n 1, 1) := by decide +kernel
theorem dX8_digest_63 : decode cX8_digest 63 = .ok (.aload_n 0, 1) := by decide +kernel
theorem dX8_digest_64 : decode cX8_digest 64 = .ok (.aload_n 0, 1) := by decide +kernel
theorem dX8_digest_65 : decode cX8_digest 65 = .ok (.aload_n 0, 1) := by decide +kernel
theorem dX8_digest_66 : decode cX8_digest 66 = .ok (.lload_n 1, 1) := by decide +kernel
theorem dX8_digest_67 : decode cX8_digest 67 = .ok (.invokevirtual 332, 3) := by decide +kernel
theorem dX8_digest_70 : decode cX8_digest 70 = .ok (.invokevirtual 335, 3) := by decide +kernel
theorem dX8_digest_73 : decode cX8_digest 73 = .ok (.invokevirtual 338, 3) := by decide +kernel
theorem dX8_digest_76 : decode cX8_digest 76 = .ok (.lreturn, 1) := by decide +kernel
theorem dX8_mixedWagons_0 : decode cX8_mixedWagons 0 = .ok (.lload_n 1, 1) := by decide +kernel
theorem dX8_mixedWagons_1 : decode cX8_mixedWagons 1 = .ok (.lstore_n 3, 1) := by decide +kernel
theorem dX8_mixedWagons_2 : decode cX8_mixedWagons 2 = .ok (.iconst 0, 1) := by decide +kernel
theorem dX8_mixedWagons_3 : decode cX8_mixedWagons 3 = .ok (.istore 5, 2) := by decide +kernel
theorem dX8_mixedWagons_5 : decode cX8_mixedWagons 5 = .ok (.iload 5, 2) := by decide +kernel
theorem dX8_mixedWagons_7 : decode cX8_mixedWagons 7 = .ok (.aload_n 0, 1) := by decide +kernel
theorem dX8_mixedWagons_8 : decode cX8_mixedWagons 8 = .ok (.getfield 24, 3) := by decide +kernel
theorem dX8_mixedWagons_11 : decode cX8_mixedWagons 11 = .ok (.invokevirtual 126, 3) := by decide +kernel
theorem dX8_mixedWagons_14 : decode cX8_mixedWagons 14 = .ok (.if_icmp .ge 45, 3) := by decide +kernel
theorem dX8_mixedWagons_17 : decode cX8_mixedWagons 17 = .ok (.lload_n 3, 1) := by decide +kernel
theorem dX8_mixedWagons_18 : decode cX8_mixedWagons 18 = .ok (.aload_n 0, 1) := by decide +kernel
theorem dX8_mixedWagons_19 : decode cX8_mixedWagons 19 = .ok (.iload 5, 2) := by decide +kernel
theorem dX8_mixedWagons_21 : decode cX8_mixedWagons 21 = .ok (.invokevirtual 341, 3) := by decide +kernel
theorem dX8_mixedWagons_24 : decode cX8_mixedWagons 24 = .ok (.i2l, 1) := by decide +kernel
theorem dX8_mixedWagons_25 : decode cX8_mixedWagons 25 = .ok (.invokestatic 315, 3) := by decide +kernel
theorem dX8_mixedWagons_28 : decode cX8_mixedWagons 28 = .ok (.lstore_n 3, 1) := by decide +kernel
theorem dX8_mixedWagons_29 : decode cX8_mixedWagons 29 = .ok (.lload_n 3, 1) := by decide +kernel
theorem dX8_mixedWagons_30 : decode cX8_mixedWagons 30 = .ok (.aload_n 0, 1) := by decide +kernel
theorem dX8_mixedWagons_31 : decode cX8_mixedWagons 31 = .ok (.iconst 3, 1) := by decide +kernel
theorem dX8_mixedWagons_32 : decode cX8_mixedWagons 32 = .ok (.iload 5, 2) := by decide +kernel
theorem dX8_mixedWagons_34 : decode cX8_mixedWagons 34 = .ok (.iconst 0, 1) := by decide +kernel
theorem dX8_mixedWagons_35 : decode cX8_mixedWagons 35 = .ok (.invokevirtual 344, 3) := by decide +kernel
theorem dX8_mixedWagons_38 : decode cX8_mixedWagons 38 = .ok (.invokestatic 315, 3) := by decide +kernel
theorem dX8_mixedWagons_41 : decode cX8_mixedWagons 41 = .ok (.aload_n 0, 1) := by decide +kernel
theorem dX8_mixedWagons_42 : decode cX8_mixedWagons 42 = .ok (.iconst 3, 1) := by decide +kernel
theorem dX8_mixedWagons_43 : decode cX8_mixedWagons 43 = .ok (.iload 5, 2) := by decide +kernel
theorem dX8_mixedWagons_45 : decode cX8_mixedWagons 45 = .ok (.iconst 1, 1) := by decide +kernel
theorem dX8_mixedWagons_46 : decode cX8_mixedWagons 46 = .ok (.invokevirtual 344, 3) := by decide +kernel
theorem dX8_mixedWagons_49 : decode cX8_mixedWagons 49 = .ok (.invokestatic 315, 3) := by decide +kernel
theorem dX8_mixedWagons_52 : decode cX8_mixedWagons 52 = .ok (.lstore_n 3, 1) := by decide +kernel
theorem dX8_mixedWagons_53 : decode cX8_mixedWagons 53 = .ok (.iinc 5 1, 3) := by decide +kernel
theorem dX8_mixedWagons_56 : decode cX8_mixedWagons 56 = .ok (.goto (-51), 3) := by decide +kernel
theorem dX8_mixedWagons_59 : decode cX8_mixedWagons 59 = .ok (.lload_n 3, 1) := by decide +kernel
theorem dX8_mixedWagons_60 : decode cX8_mixedWagons 60 = .ok (.lreturn, 1) := by decide +kernel
theorem dX8_mixedHill_0 : decode cX8_mixedHill 0 = .ok (.lload_n 1, 1) := by decide +kernel
theorem dX8_mixedHill_1 : decode cX8_mixedHill 1 = .ok (.lstore_n 3, 1) := by decide +kernel
theorem dX8_mixedHill_2 : decode cX8_mixedHill 2 = .ok (.iconst 0, 1) := by decide +kernel
theorem dX8_mixedHill_3 : decode cX8_mixedHill 3 = .ok (.istore 5, 2) := by decide +kernel
theorem dX8_mixedHill_5 : decode cX8_mixedHill 5 = .ok (.iload 5, 2) := by decide +kernel
theorem dX8_mixedHill_7 : decode cX8_mixedHill 7 = .ok (.aload_n 0, 1) := by decide +kernel
theorem dX8_mixedHill_8 : decode cX8_mixedHill 8 = .ok (.getfield 31, 3) := by decide +kernel
theorem dX8_mixedHill_11 : decode cX8_mixedHill 11 = .ok (.invokevirtual 131, 3) := by decide +kernel
theorem dX8_mixedHill_14 : decode cX8_mixedHill 14 = .ok (.if_icmp .ge 33, 3) := by decide +kernel
theorem dX8_mixedHill_17 : decode cX8_mixedHill 17 = .ok (.lload_n 3, 1) := by decide +kernel
theorem dX8_mixedHill_18 : decode cX8_mixedHill 18 = .ok (.aload_n 0, 1) := by decide +kernel
theorem dX8_mixedHill_19 : decode cX8_mixedHill 19 = .ok (.iload 5, 2) := by decide +kernel
theorem dX8_mixedHill_21 : decode cX8_mixedHill 21 = .ok (.iconst 0, 1) := by decide +kernel
theorem dX8_mixedHill_22 : decode cX8_mixedHill 22 = .ok (.invokevirtual 348, 3) := by decide +kernel
theorem dX8_mixedHill_25 : decode cX8_mixedHill 25 = .ok (.i2l, 1) := by decide +kernel
theorem dX8_mixedHill_26 : decode cX8_mixedHill 26 = .ok (.invokestatic 315, 3) := by decide +kernel
theorem dX8_mixedHill_29 : decode cX8_mixedHill 29 = .ok (.aload_n 0, 1) := by decide +kernel
theorem dX8_mixedHill_30 : decode cX8_mixedHill 30 = .ok (.iload 5, 2) := by decide +kernel
theorem dX8_mixedHill_32 : decode cX8_mixedHill 32 = .ok (.iconst 1, 1) := by decide +kernel
theorem dX8_mixedHill_33 : decode cX8_mixedHill 33 = .ok (.invokevirtual 348, 3) := by decide +kernel
theorem dX8_mixedHill_36 : decode cX8_mixedHill 36 = .ok (.i2l, 1) := by decide +kernel
theorem dX8_mixedHill_37 : decode cX8_mixedHill 37 = .ok (.invokestatic 315, 3) := by decide +kernel
theorem dX8_mixedHill_40 : decode cX8_mixedHill 40 = .ok (.lstore_n 3, 1) := by decide +kernel
theorem dX8_mixedHill_41 : decode cX8_mixedHill 41 = .ok (.iinc 5 1, 3) := by decide +kernel
theorem dX8_mixedHill_44 : decode cX8_mixedHill 44 = .ok (.goto (-39), 3) := by decide +kernel
theorem dX8_mixedHill_47 : decode cX8_mixedHill 47 = .ok (.lload_n 3, 1) := by decide +kernel
theorem dX8_mixedHill_48 : decode cX8_mixedHill 48 = .ok (.lreturn, 1) := by decide +kernel
theorem dX8_mixedMinutes_0 : decode cX8_mixedMinutes 0 = .ok (.lload_n 1, 1) := by decide +kernel
theorem dX8_mixedMinutes_1 : decode cX8_mixedMinutes 1 = .ok (.lstore_n 3, 1) := by decide +kernel
theorem dX8_mixedMinutes_2 : decode cX8_mixedMinutes 2 = .ok (.getstatic 351, 3) := by decide +kernel
theorem dX8_mixedMinutes_5 : decode cX8_mixedMinutes 5 = .ok (.astore 5, 2) := by decide +kernel
theorem dX8_mixedMinutes_7 : decode cX8_mixedMinutes 7 = .ok (.aload 5, 2) := by decide +kernel
theorem dX8_mixedMinutes_9 : decode cX8_mixedMinutes 9 = .ok (.arraylength, 1) := by decide +kernel
theorem dX8_mixedMinutes_10 : decode cX8_mixedMinutes 10 = .ok (.istore 6, 2) := by decide +kernel
theorem dX8_mixedMinutes_12 : decode cX8_mixedMinutes 12 = .ok (.iconst 0, 1) := by decide +kernel
theorem dX8_mixedMinutes_13 : decode cX8_mixedMinutes 13 = .ok (.istore 7, 2) := by decide +kernel
theorem dX8_mixedMinutes_15 : decode cX8_mixedMinutes 15 = .ok (.iload 7, 2) := by decide +kernel
theorem dX8_mixedMinutes_17 : decode cX8_mixedMinutes 17 = .ok (.iload 6, 2) := by decide +kernel
theorem dX8_mixedMinutes_19 : decode cX8_mixedMinutes 19 = .ok (.if_icmp .ge 87, 3) := by decide +kernel
theorem dX8_mixedMinutes_22 : decode cX8_mixedMinutes 22 = .ok (.aload 5, 2) := by decide +kernel
theorem dX8_mixedMinutes_24 : decode cX8_mixedMinutes 24 = .ok (.iload 7, 2) := by decide +kernel
theorem dX8_mixedMinutes_26 : decode cX8_mixedMinutes 26 = .ok (.iaload, 1) := by decide +kernel
theorem dX8_mixedMinutes_27 : decode cX8_mixedMinutes 27 = .ok (.istore 8, 2) := by decide +kernel
theorem dX8_mixedMinutes_29 : decode cX8_mixedMinutes 29 = .ok (.lload_n 3, 1) := by decide +kernel
theorem dX8_mixedMinutes_30 : decode cX8_mixedMinutes 30 = .ok (.aload_n 0, 1) := by decide +kernel
theorem dX8_mixedMinutes_31 : decode cX8_mixedMinutes 31 = .ok (.iload 8, 2) := by decide +kernel
theorem dX8_mixedMinutes_33 : decode cX8_mixedMinutes 33 = .ok (.iconst 0, 1) := by decide +kernel
theorem dX8_mixedMinutes_34 : decode cX8_mixedMinutes 34 = .ok (.invokevirtual 354, 3) := by decide +kernel
theorem dX8_mixedMinutes_37 : decode cX8_mixedMinutes 37 = .ok (.i2l, 1) := by decide +kernel
theorem dX8_mixedMinutes_38 : decode cX8_mixedMinutes 38 = .ok (.invokestatic 315, 3) := by decide +kernel
theorem dX8_mixedMinutes_41 : decode cX8_mixedMinutes 41 = .ok (.aload_n 0, 1) := by decide +kernel
theorem dX8_mixedMinutes_42 : decode cX8_mixedMinutes 42 = .ok (.iload 8, 2) := by decide +kernel
theorem dX8_mixedMinutes_44 : decode cX8_mixedMinutes 44 = .ok (.iconst 1, 1) := by decide +kernel
theorem dX8_mixedMinutes_45 : decode cX8_mixedMinutes 45 = .ok (.invokevirtual 354, 3) := by decide +kernel
theorem dX8_mixedMinutes_48 : decode cX8_mixedMinutes 48 = .ok (.i2l, 1) := by decide +kernel
theorem dX8_mixedMinutes_49 : decode cX8_mixedMinutes 49 = .ok (.invokestatic 315, 3) := by decide +kernel
theorem dX8_mixedMinutes_52 : decode cX8_mixedMinutes 52 = .ok (.lstore_n 3, 1) := by decide +kernel
theorem dX8_mixedMinutes_53 : decode cX8_mixedMinutes 53 = .ok (.lload_n 3, 1) := by decide +kernel
theorem dX8_mixedMinutes_54 : decode cX8_mixedMinutes 54 = .ok (.aload_n 0, 1) := by decide +kernel
theorem dX8_mixedMinutes_55 : decode cX8_mixedMinutes 55 = .ok (.iload 8, 2) := by decide +kernel
theorem dX8_mixedMinutes_57 : decode cX8_mixedMinutes 57 = .ok (.iconst 0, 1) := by decide +kernel
theorem dX8_mixedMinutes_58 : decode cX8_mixedMinutes 58 = .ok (.invokevirtual 357, 3) := by decide +kernel
theorem dX8_mixedMinutes_61 : decode cX8_mixedMinutes 61 = .ok (.i2l, 1) := by decide +kernel
theorem dX8_mixedMinutes_62 : decode cX8_mixedMinutes 62 = .ok (.invokestatic 315, 3) := by decide +kernel
theorem dX8_mixedMinutes_65 : decode cX8_mixedMinutes 65 = .ok (.aload_n 0, 1) := by decide +kernel
theorem dX8_mixedMinutes_66 : decode cX8_mixedMinutes 66 = .ok (.iload 8, 2) := by decide +kernel
theorem dX8_mixedMinutes_68 : decode cX8_mixedMinutes 68 = .ok (.iconst 1, 1) := by decide +kernel
theorem dX8_mixedMinutes_69 : decode cX8_mixedMinutes 69 = .ok (.invokevirtual 357, 3) := by decide +kernel
theorem dX8_mixedMinutes_72 : decode cX8_mixedMinutes 72 = .ok (.i2l, 1) := by decide +kernel
theorem dX8_mixedMinutes_73 : decode cX8_mixedMinutes 73 = .ok (.invokestatic 315, 3) := by decide +kernel
theorem dX8_mixedMinutes_76 : decode cX8_mixedMinutes 76 = .ok (.aload_n 0, 1) := by decide +kernel
theorem dX8_mixedMinutes_77 : decode cX8_mixedMinutes 77 = .ok (.iload 8, 2) := by decide +kernel
theorem dX8_mixedMinutes_79 : decode cX8_mixedMinutes 79 = .ok (.iconst 2, 1) := by decide +kernel
theorem dX8_mixedMinutes_80 : decode cX8_mixedMinutes 80 = .ok (.invokevirtual 357, 3) := by decide +kernel
theorem dX8_mixedMinutes_83 : decode cX8_mixedMinutes 83 = .ok (.i2l, 1) := by decide +kernel
theorem dX8_mixedMinutes_84 : decode cX8_mixedMinutes 84 = .ok (.invokestatic 315, 3) := by decide +kernel
theorem dX8_mixedMinutes_87 : decode cX8_mixedMinutes 87 = .ok (.lstore_n 3, 1) := by decide +kernel
theorem dX8_mixedMinutes_88 : decode cX8_mixedMinutes 88 = .ok (.lload_n 3, 1) := by decide +kernel
theorem dX8_mixedMinutes_89 : decode cX8_mixedMinutes 89 = .ok (.aload_n 0, 1) := by decide +kernel
theorem dX8_mixedMinutes_90 : decode cX8_mixedMinutes 90 = .ok (.iload 8, 2) := by decide +kernel
theorem dX8_mixedMinutes_92 : decode cX8_mixedMinutes 92 = .ok (.invokevirtual 360, 3) := by decide +kernel
theorem dX8_mixedMinutes_95 : decode cX8_mixedMinutes 95 = .ok (.i2l, 1) := by decide +kernel
theorem dX8_mixedMinutes_96 : decode cX8_mixedMinutes 96 = .ok (.invokestatic 315, 3) := by decide +kernel
theorem dX8_mixedMinutes_99 : decode cX8_mixedMinutes 99 = .ok (.lstore_n 3, 1) := by decide +kernel
theorem dX8_mixedMinutes_100 : decode cX8_mixedMinutes 100 = .ok (.iinc 7 1, 3) := by decide +kernel
theorem dX8_mixedMinutes_103 : decode cX8_mixedMinutes 103 = .ok (.goto (-88), 3) := by decide +kernel
theorem dX8_mixedMinutes_106 : decode cX8_mixedMinutes 106 = .ok (.lload_n 3, 1) := by decide +kernel
theorem dX8_mixedMinutes_107 : decode cX8_mixedMinutes 107 = .ok (.lreturn, 1) := by decide +kernel
theorem dX8_mixedOutcomes_0 : decode cX8_mixedOutcomes 0 = .ok (.lload_n 1, 1) := by decide +kernel
theorem dX8_mixedOutcomes_1 : decode cX8_mixedOutcomes 1 = .ok (.aload_n 0, 1) := by decide +kernel
theorem dX8_mixedOutcomes_2 : decode cX8_mixedOutcomes 2 = .ok (.invokevirtual 363, 3) := by decide +kernel
theorem dX8_mixedOutcomes_5 : decode cX8_mixedOutcomes 5 = .ok (.i2l, 1) := by decide +kernel
theorem dX8_mixedOutcomes_6 : decode cX8_mixedOutcomes 6 = .ok (.invokestatic 315, 3) := by decide +kernel
theorem dX8_mixedOutcomes_9 : decode cX8_mixedOutcomes 9 = .ok (.lstore_n 3, 1) := by decide +kernel
theorem dX8_mixedOutcomes_10 : decode cX8_mixedOutcomes 10 = .ok (.lload_n 3, 1) := by decide +kernel
theorem dX8_mixedOutcomes_11 : decode cX8_mixedOutcomes 11 = .ok (.aload_n 0, 1) := by decide +kernel
theorem dX8_mixedOutcomes_12 : decode cX8_mixedOutcomes 12 = .ok (.iconst 0, 1) := by decide +kernel
theorem dX8_mixedOutcomes_13 : decode cX8_mixedOutcomes 13 = .ok (.invokevirtual 366, 3) := by decide +kernel
theorem dX8_mixedOutcomes_16 : decode cX8_mixedOutcomes 16 = .ok (.i2l, 1) := by decide +kernel
theorem dX8_mixedOutcomes_17 : decode cX8_mixedOutcomes 17 = .ok (.invokestatic 315, 3) := by decide +kernel
theorem dX8_mixedOutcomes_20 : decode cX8_mixedOutcomes 20 = .ok (.aload_n 0, 1) := by decide +kernel
theorem dX8_mixedOutcomes_21 : decode cX8_mixedOutcomes 21 = .ok (.iconst 1, 1) := by decide +kernel
theorem dX8_mixedOutcomes_22 : decode cX8_mixedOutcomes 22 = .ok (.invokevirtual 366, 3) := by decide +kernel
theorem dX8_mixedOutcomes_25 : decode cX8_mixedOutcomes 25 = .ok (.i2l, 1) := by decide +kernel
theorem dX8_mixedOutcomes_26 : decode cX8_mixedOutcomes 26 = .ok (.invokestatic 315, 3) := by decide +kernel
theorem dX8_mixedOutcomes_29 : decode cX8_mixedOutcomes 29 = .ok (.lstore_n 3, 1) := by decide +kernel
theorem dX8_mixedOutcomes_30 : decode cX8_mixedOutcomes 30 = .ok (.lload_n 3, 1) := by decide +kernel
theorem dX8_mixedOutcomes_31 : decode cX8_mixedOutcomes 31 = .ok (.aload_n 0, 1) := by decide +kernel
theorem dX8_mixedOutcomes_32 : decode cX8_mixedOutcomes 32 = .ok (.invokevirtual 369, 3) := by decide +kernel
theorem dX8_mixedOutcomes_35 : decode cX8_mixedOutcomes 35 = .ok (.i2l, 1) := by decide +kernel
theorem dX8_mixedOutcomes_36 : decode cX8_mixedOutcomes 36 = .ok (.invokestatic 315, 3) := by decide +kernel
theorem dX8_mixedOutcomes_39 : decode cX8_mixedOutcomes 39 = .ok (.aload_n 0, 1) := by decide +kernel
theorem dX8_mixedOutcomes_40 : decode cX8_mixedOutcomes 40 = .ok (.invokevirtual 372, 3) := by decide +kernel
theorem dX8_mixedOutcomes_43 : decode cX8_mixedOutcomes 43 = .ok (.i2l, 1) := by decide +kernel
theorem dX8_mixedOutcomes_44 : decode cX8_mixedOutcomes 44 = .ok (.invokestatic 315, 3) := by decide +kernel
theorem dX8_mixedOutcomes_47 : decode cX8_mixedOutcomes 47 = .ok (.aload_n 0, 1) := by decide +kernel
theorem dX8_mixedOutcomes_48 : decode cX8_mixedOutcomes 48 = .ok (.invokevirtual 375, 3) := by decide +kernel
theorem dX8_mixedOutcomes_51 : decode cX8_mixedOutcomes 51 = .ok (.i2l, 1) := by decide +kernel
theorem dX8_mixedOutcomes_52 : decode cX8_mixedOutcomes 52 = .ok (.invokestatic 315, 3) := by decide +kernel
theorem dX8_mixedOutcomes_55 : decode cX8_mixedOutcomes 55 = .ok (.lstore_n 3, 1) := by decide +kernel
theorem dX8_mixedOutcomes_56 : decode cX8_mixedOutcomes 56 = .ok (.lload_n 3, 1) := by decide +kernel
theorem dX8_mixedOutcomes_57 : decode cX8_mixedOutcomes 57 = .ok (.aload_n 0, 1) := by decide +kernel
theorem dX8_mixedOutcomes_58 : decode cX8_mixedOutcomes 58 = .ok (.iconst 0, 1) := by decide +kernel
theorem dX8_mixedOutcomes_59 : decode cX8_mixedOutcomes 59 = .ok (.invokevirtual 378, 3) := by decide +kernel
theorem dX8_mixedOutcomes_62 : decode cX8_mixedOutcomes 62 = .ok (.i2l, 1) := by decide +kernel
theorem dX8_mixedOutcomes_63 : decode cX8_mixedOutcomes 63 = .ok (.invokestatic 315, 3) := by decide +kernel
theorem dX8_mixedOutcomes_66 : decode cX8_mixedOutcomes 66 = .ok (.aload_n 0, 1) := by decide +kernel
theorem dX8_mixedOutcomes_67 : decode cX8_mixedOutcomes 67 = .ok (.iconst 1, 1) := by decide +kernel
theorem dX8_mixedOutcomes_68 : decode cX8_mixedOutcomes 68 = .ok (.invokevirtual 378, 3) := by decide +kernel
theorem dX8_mixedOutcomes_71 : decode cX8_mixedOutcomes 71 = .ok (.i2l, 1) := by decide +kernel
theorem dX8_mixedOutcomes_72 : decode cX8_mixedOutcomes 72 = .ok (.invokestatic 315, 3) := by decide +kernel
theorem dX8_mixedOutcomes_75 : decode cX8_mixedOutcomes 75 = .ok (.lreturn, 1) := by decide +kernel
theorem dX8_mixedStarts_0 : decode cX8_mixedStarts 0 = .ok (.lload_n 1, 1) := by decide +kernel
theorem dX8_mixedStarts_1 : decode cX8_mixedStarts 1 = .ok (.aload_n 0, 1) := by decide +kernel
theorem dX8_mixedStarts_2 : decode cX8_mixedStarts 2 = .ok (.iconst 0, 1) := by decide +kernel
theorem dX8_mixedStarts_3 : decode cX8_mixedStarts 3 = .ok (.iconst 3, 1) := by decide +kernel
theorem dX8_mixedStarts_4 : decode cX8_mixedStarts 4 = .ok (.invokevirtual 381, 3) := by decide +kernel
theorem dX8_mixedStarts_7 : decode cX8_mixedStarts 7 = .ok (.i2l, 1) := by decide +kernel
theorem dX8_mixedStarts_8 : decode cX8_mixedStarts 8 = .ok (.invokestatic 315, 3) := by decide +kernel
theorem dX8_mixedStarts_11 : decode cX8_mixedStarts 11 = .ok (.aload_n 0, 1) := by decide +kernel
theorem dX8_mixedStarts_12 : decode cX8_mixedStarts 12 = .ok (.iconst 4, 1) := by decide +kernel
theorem dX8_mixedStarts_13 : decode cX8_mixedStarts 13 = .ok (.iconst 1, 1) := by decide +kernel
theorem dX8_mixedStarts_14 : decode cX8_mixedStarts 14 = .ok (.invokevirtual 381, 3) := by decide +kernel
theorem dX8_mixedStarts_17 : decode cX8_mixedStarts 17 = .ok (.i2l, 1) := by decide +kernel
theorem dX8_mixedStarts_18 : decode cX8_mixedStarts 18 = .ok (.invokestatic 315, 3) := by decide +kernel
theorem dX8_mixedStarts_21 : decode cX8_mixedStarts 21 = .ok (.lstore_n 3, 1) := by decide +kernel
theorem dX8_mixedStarts_22 : decode cX8_mixedStarts 22 = .ok (.lload_n 3, 1) := by decide +kernel
theorem dX8_mixedStarts_23 : decode cX8_mixedStarts 23 = .ok (.aload_n 0, 1) := by decide +kernel
theorem dX8_mixedStarts_24 : decode cX8_mixedStarts 24 = .ok (.iconst 0, 1) := by decide +kernel
theorem dX8_mixedStarts_25 : decode cX8_mixedStarts 25 = .ok (.invokevirtual 384, 3) := by decide +kernel
theorem dX8_mixedStarts_28 : decode cX8_mixedStarts 28 = .ok (.i2l, 1) := by decide +kernel
theorem dX8_mixedStarts_29 : decode cX8_mixedStarts 29 = .ok (.invokestatic 315, 3) := by decide +kernel
theorem dX8_mixedStarts_32 : decode cX8_mixedStarts 32 = .ok (.aload_n 0, 1) := by decide +kernel
theorem dX8_mixedStarts_33 : decode cX8_mixedStarts 33 = .ok (.iconst 1, 1) := by decide +kernel
theorem dX8_mixedStarts_34 : decode cX8_mixedStarts 34 = .ok (.invokevirtual 384, 3) := by decide +kernel
theorem dX8_mixedStarts_37 : decode cX8_mixedStarts 37 = .ok (.i2l, 1) := by decide +kernel
theorem dX8_mixedStarts_38 : decode cX8_mixedStarts 38 = .ok (.invokestatic 315, 3) := by decide +kernel
theorem dX8_mixedStarts_41 : decode cX8_mixedStarts 41 = .ok (.lstore_n 3, 1) := by decide +kernel
theorem dX8_mixedStarts_42 : decode cX8_mixedStarts 42 = .ok (.lload_n 3, 1) := by decide +kernel
theorem dX8_mixedStarts_43 : decode cX8_mixedStarts 43 = .ok (.aload_n 0, 1) := by decide +kernel
theorem dX8_mixedStarts_44 : decode cX8_mixedStarts 44 = .ok (.iconst 0, 1) := by decide +kernel
theorem dX8_mixedStarts_45 : decode cX8_mixedStarts 45 = .ok (.invokevirtual 387, 3) := by decide +kernel
theorem dX8_mixedStarts_48 : decode cX8_mixedStarts 48 = .ok (.i2l, 1) := by decide +kernel
theorem dX8_mixedStarts_49 : decode cX8_mixedStarts 49 = .ok (.invokestatic 315, 3) := by decide +kernel
theorem dX8_mixedStarts_52 : decode cX8_mixedStarts 52 = .ok (.aload_n 0, 1) := by decide +kernel
theorem dX8_mixedStarts_53 : decode cX8_mixedStarts 53 = .ok (.iconst 1, 1) := by decide +kernel
theorem dX8_mixedStarts_54 : decode cX8_mixedStarts 54 = .ok (.invokevirtual 387, 3) := by decide +kernel
theorem dX8_mixedStarts_57 : decode cX8_mixedStarts 57 = .ok (.i2l, 1) := by decide +kernel
theorem dX8_mixedStarts_58 : decode cX8_mixedStarts 58 = .ok (.invokestatic 315, 3) := by decide +kernel
theorem dX8_mixedStarts_61 : decode cX8_mixedStarts 61 = .ok (.lstore_n 3, 1) := by decide +kernel
theorem dX8_mixedStarts_62 : decode cX8_mixedStarts 62 = .ok (.lload_n 3, 1) := by decide +kernel
theorem dX8_mixedStarts_63 : decode cX8_mixedStarts 63 = .ok (.aload_n 0, 1) := by decide +kernel
theorem dX8_mixedStarts_64 : decode cX8_mixedStarts 64 = .ok (.iconst 0, 1) := by decide +kernel
theorem dX8_mixedStarts_65 : decode cX8_mixedStarts 65 = .ok (.invokevirtual 390, 3) := by decide +kernel
theorem dX8_mixedStarts_68 : decode cX8_mixedStarts 68 = .ok (.i2l, 1) := by decide +kernel
theorem dX8_mixedStarts_69 : decode cX8_mixedStarts 69 = .ok (.invokestatic 315, 3) := by decide +kernel
theorem dX8_mixedStarts_72 : decode cX8_mixedStarts 72 = .ok (.aload_n 0, 1) := by decide +kernel
theorem dX8_mixedStarts_73 : decode cX8_mixedStarts 73 = .ok (.iconst 1, 1) := by decide +kernel
theorem dX8_mixedStarts_74 : decode cX8_mixedStarts 74 = .ok (.invokevirtual 390, 3) := by decide +kernel
theorem dX8_mixedStarts_77 : decode cX8_mixedStarts 77 = .ok (.i2l, 1) := by decide +kernel
theorem dX8_mixedStarts_78 : decode cX8_mixedStarts 78 = .ok (.invokestatic 315, 3) := by decide +kernel
theorem dX8_mixedStarts_81 : decode cX8_mixedStarts 81 = .ok (.lreturn, 1) := by decide +kernel
theorem dX8_mixedDay_0 : decode cX8_mixedDay 0 = .ok (.lload_n 1, 1) := by decide +kernel
theorem dX8_mixedDay_1 : decode cX8_mixedDay 1 = .ok (.lstore_n 3, 1) := by decide +kernel
theorem dX8_mixedDay_2 : decode cX8_mixedDay 2 = .ok (.iconst 1, 1) := by decide +kernel
theorem dX8_mixedDay_3 : decode cX8_mixedDay 3 = .ok (.istore 5, 2) := by decide +kernel
theorem dX8_mixedDay_5 : decode cX8_mixedDay 5 = .ok (.iload 5, 2) := by decide +kernel
theorem dX8_mixedDay_7 : decode cX8_mixedDay 7 = .ok (.bipush 6, 2) := by decide +kernel
theorem dX8_mixedDay_9 : decode cX8_mixedDay 9 = .ok (.if_icmp .gt 33, 3) := by decide +kernel
theorem dX8_mixedDay_12 : decode cX8_mixedDay 12 = .ok (.lload_n 3, 1) := by decide +kernel
theorem dX8_mixedDay_13 : decode cX8_mixedDay 13 = .ok (.aload_n 0, 1) := by decide +kernel
theorem dX8_mixedDay_14 : decode cX8_mixedDay 14 = .ok (.iload 5, 2) := by decide +kernel
theorem dX8_mixedDay_16 : decode cX8_mixedDay 16 = .ok (.iconst 0, 1) := by decide +kernel
theorem dX8_mixedDay_17 : decode cX8_mixedDay 17 = .ok (.invokevirtual 393, 3) := by decide +kernel
theorem dX8_mixedDay_20 : decode cX8_mixedDay 20 = .ok (.i2l, 1) := by decide +kernel
theorem dX8_mixedDay_21 : decode cX8_mixedDay 21 = .ok (.invokestatic 315, 3) := by decide +kernel
theorem dX8_mixedDay_24 : decode cX8_mixedDay 24 = .ok (.aload_n 0, 1) := by decide +kernel
theorem dX8_mixedDay_25 : decode cX8_mixedDay 25 = .ok (.iload 5, 2) := by decide +kernel
theorem dX8_mixedDay_27 : decode cX8_mixedDay 27 = .ok (.iconst 1, 1) := by decide +kernel
theorem dX8_mixedDay_28 : decode cX8_mixedDay 28 = .ok (.invokevirtual 393, 3) := by decide +kernel
theorem dX8_mixedDay_31 : decode cX8_mixedDay 31 = .ok (.i2l, 1) := by decide +kernel
theorem dX8_mixedDay_32 : decode cX8_mixedDay 32 = .ok (.invokestatic 315, 3) := by decide +kernel
theorem dX8_mixedDay_35 : decode cX8_mixedDay 35 = .ok (.lstore_n 3, 1) := by decide +kernel
theorem dX8_mixedDay_36 : decode cX8_mixedDay 36 = .ok (.iinc 5 1, 3) := by decide +kernel
theorem dX8_mixedDay_39 : decode cX8_mixedDay 39 = .ok (.goto (-34), 3) := by decide +kernel
theorem dX8_mixedDay_42 : decode cX8_mixedDay 42 = .ok (.lload_n 3, 1) := by decide +kernel
theorem dX8_mixedDay_43 : decode cX8_mixedDay 43 = .ok (.aload_n 0, 1) := by decide +kernel
theorem dX8_mixedDay_44 : decode cX8_mixedDay 44 = .ok (.bipush 9, 2) := by decide +kernel
theorem dX8_mixedDay_46 : decode cX8_mixedDay 46 = .ok (.invokevirtual 396, 3) := by decide +kernel
theorem dX8_mixedDay_49 : decode cX8_mixedDay 49 = .ok (.i2l, 1) := by decide +kernel
theorem dX8_mixedDay_50 : decode cX8_mixedDay 50 = .ok (.invokestatic 315, 3) := by decide +kernel
theorem dX8_mixedDay_53 : decode cX8_mixedDay 53 = .ok (.lstore_n 3, 1) := by decide +kernel
theorem dX8_mixedDay_54 : decode cX8_mixedDay 54 = .ok (.lload_n 3, 1) := by decide +kernel
theorem dX8_mixedDay_55 : decode cX8_mixedDay 55 = .ok (.aload_n 0, 1) := by decide +kernel
theorem dX8_mixedDay_56 : decode cX8_mixedDay 56 = .ok (.iconst 5, 1) := by decide +kernel
theorem dX8_mixedDay_57 : decode cX8_mixedDay 57 = .ok (.bipush 7, 2) := by decide +kernel
theorem dX8_mixedDay_59 : decode cX8_mixedDay 59 = .ok (.iconst 3, 1) := by decide +kernel
theorem dX8_mixedDay_60 : decode cX8_mixedDay 60 = .ok (.iconst 0, 1) := by decide +kernel
theorem dX8_mixedDay_61 : decode cX8_mixedDay 61 = .ok (.invokevirtual 399, 3) := by decide +kernel
theorem dX8_mixedDay_64 : decode cX8_mixedDay 64 = .ok (.invokestatic 315, 3) := by decide +kernel
theorem dX8_mixedDay_67 : decode cX8_mixedDay 67 = .ok (.aload_n 0, 1) := by decide +kernel
theorem dX8_mixedDay_68 : decode cX8_mixedDay 68 = .ok (.iconst 5, 1) := by decide +kernel
theorem dX8_mixedDay_69 : decode cX8_mixedDay 69 = .ok (.bipush 7, 2) := by decide +kernel
theorem dX8_mixedDay_71 : decode cX8_mixedDay 71 = .ok (.iconst 3, 1) := by decide +kernel
theorem dX8_mixedDay_72 : decode cX8_mixedDay 72 = .ok (.iconst 1, 1) := by decide +kernel
theorem dX8_mixedDay_73 : decode cX8_mixedDay 73 = .ok (.invokevirtual 399, 3) := by decide +kernel
theorem dX8_mixedDay_76 : decode cX8_mixedDay 76 = .ok (.invokestatic 315, 3) := by decide +kernel
theorem dX8_mixedDay_79 : decode cX8_mixedDay 79 = .ok (.lstore_n 3, 1) := by decide +kernel
theorem dX8_mixedDay_80 : decode cX8_mixedDay 80 = .ok (.lload_n 3, 1) := by decide +kernel
theorem dX8_mixedDay_81 : decode cX8_mixedDay 81 = .ok (.aload_n 0, 1) := by decide +kernel
theorem dX8_mixedDay_82 : decode cX8_mixedDay 82 = .ok (.iconst 1, 1) := by decide +kernel
theorem dX8_mixedDay_83 : decode cX8_mixedDay 83 = .ok (.invokevirtual 403, 3) := by decide +kernel
theorem dX8_mixedDay_86 : decode cX8_mixedDay 86 = .ok (.i2l, 1) := by decide +kernel
theorem dX8_mixedDay_87 : decode cX8_mixedDay 87 = .ok (.invokestatic 315, 3) := by decide +kernel
theorem dX8_mixedDay_90 : decode cX8_mixedDay 90 = .ok (.lreturn, 1) := by decide +kernel
theorem dX8_mixed_0 : decode cX8_mixed 0 = .ok (.ldc2_w 406, 3) := by decide +kernel
theorem dX8_mixed_3 : decode cX8_mixed 3 = .ok (.lload_n 0, 1) := by decide +kernel
theorem dX8_mixed_4 : decode cX8_mixed 4 = .ok (.lmul, 1) := by decide +kernel
theorem dX8_mixed_5 : decode cX8_mixed 5 = .ok (.lload_n 2, 1) := by decide +kernel
theorem dX8_mixed_6 : decode cX8_mixed 6 = .ok (.ladd, 1) := by decide +kernel
theorem dX8_mixed_7 : decode cX8_mixed 7 = .ok (.lreturn, 1) := by decide +kernel
theorem dX8_refresh_0 : decode cX8_refresh 0 = .ok (.aload_n 0, 1) := by decide +kernel
theorem dX8_refresh_1 : decode cX8_refresh 1 = .ok (.getfield 24, 3) := by decide +kernel
theorem dX8_refresh_4 : decode cX8_refresh 4 = .ok (.aload_n 0, 1) := by decide +kernel
theorem dX8_refresh_5 : decode cX8_refresh 5 = .ok (.getfield 14, 3) := by decide +kernel
theorem dX8_refresh_8 : decode cX8_refresh 8 = .ok (.invokevirtual 408, 3) := by decide +kernel
theorem dX8_refresh_11 : decode cX8_refresh 11 = .ok (.aload_n 0, 1) := by decide +kernel
theorem dX8_refresh_12 : decode cX8_refresh 12 = .ok (.getfield 31, 3) := by decide +kernel
theorem dX8_refresh_15 : decode cX8_refresh 15 = .ok (.aload_n 0, 1) := by decide +kernel
theorem dX8_refresh_16 : decode cX8_refresh 16 = .ok (.getfield 18, 3) := by decide +kernel
theorem dX8_refresh_19 : decode cX8_refresh 19 = .ok (.invokevirtual 412, 3) := by decide +kernel
theorem dX8_refresh_22 : decode cX8_refresh 22 = .ok (.aload_n 0, 1) := by decide +kernel
theorem dX8_refresh_23 : decode cX8_refresh 23 = .ok (.getfield 72, 3) := by decide +kernel
theorem dX8_refresh_26 : decode cX8_refresh 26 = .ok (.aload_n 0, 1) := by decide +kernel
theorem dX8_refresh_27 : decode cX8_refresh 27 = .ok (.getfield 24, 3) := by decide +kernel
theorem dX8_refresh_30 : decode cX8_refresh 30 = .ok (.invokevirtual 180, 3) := by decide +kernel
theorem dX8_refresh_33 : decode cX8_refresh 33 = .ok (.aload_n 0, 1) := by decide +kernel
theorem dX8_refresh_34 : decode cX8_refresh 34 = .ok (.getfield 31, 3) := by decide +kernel
theorem dX8_refresh_37 : decode cX8_refresh 37 = .ok (.aload_n 0, 1) := by decide +kernel
theorem dX8_refresh_38 : decode cX8_refresh 38 = .ok (.getfield 50, 3) := by decide +kernel
theorem dX8_refresh_41 : decode cX8_refresh 41 = .ok (.aload_n 0, 1) := by decide +kernel
theorem dX8_refresh_42 : decode cX8_refresh 42 = .ok (.getfield 54, 3) := by decide +kernel
theorem dX8_refresh_45 : decode cX8_refresh 45 = .ok (.aload_n 0, 1) := by decide +kernel
theorem dX8_refresh_46 : decode cX8_refresh 46 = .ok (.getfield 66, 3) := by decide +kernel
theorem dX8_refresh_49 : decode cX8_refresh 49 = .ok (.iconst 4, 1) := by decide +kernel
theorem dX8_refresh_50 : decode cX8_refresh 50 = .ok (.invokevirtual 190, 3) := by decide +kernel
theorem dX8_refresh_53 : decode cX8_refresh 53 = .ok (.invokevirtual 413, 3) := by decide +kernel
theorem dX8_refresh_56 : decode cX8_refresh 56 = .ok (.aload_n 0, 1) := by decide +kernel
theorem dX8_refresh_57 : decode cX8_refresh 57 = .ok (.iconst 0, 1) := by decide +kernel
theorem dX8_refresh_58 : decode cX8_refresh 58 = .ok (.putfield 417, 3) := by decide +kernel
theorem dX8_refresh_61 : decode cX8_refresh 61 = .ok (.return_, 1) := by decide +kernel
theorem dX8_findBestRow_0 : decode cX8_findBestRow 0 = .ok (.aload_n 0, 1) := by decide +kernel
theorem dX8_findBestRow_1 : decode cX8_findBestRow 1 = .ok (.getfield 417, 3) := by decide +kernel
theorem dX8_findBestRow_4 : decode cX8_findBestRow 4 = .ok (.ifCond .ne 35, 3) := by decide +kernel
theorem dX8_findBestRow_7 : decode cX8_findBestRow 7 = .ok (.aload_n 0, 1) := by decide +kernel
theorem dX8_findBestRow_8 : decode cX8_findBestRow 8 = .ok (.getfield 79, 3) := by decide +kernel
theorem dX8_findBestRow_11 : decode cX8_findBestRow 11 = .ok (.aload_n 0, 1) := by decide +kernel
theorem dX8_findBestRow_12 : decode cX8_findBestRow 12 = .ok (.getfield 24, 3) := by decide +kernel
theorem dX8_findBestRow_15 : decode cX8_findBestRow 15 = .ok (.aload_n 0, 1) := by decide +kernel
theorem dX8_findBestRow_16 : decode cX8_findBestRow 16 = .ok (.getfield 50, 3) := by decide +kernel
theorem dX8_findBestRow_19 : decode cX8_findBestRow 19 = .ok (.iconst 0, 1) := by decide +kernel
theorem dX8_findBestRow_20 : decode cX8_findBestRow 20 = .ok (.invokevirtual 190, 3) := by decide +kernel
theorem dX8_findBestRow_23 : decode cX8_findBestRow 23 = .ok (.aload_n 0, 1) := by decide +kernel
theorem dX8_findBestRow_24 : decode cX8_findBestRow 24 = .ok (.getfield 54, 3) := by decide +kernel
theorem dX8_findBestRow_27 : decode cX8_findBestRow 27 = .ok (.iconst 0, 1) := by decide +kernel
theorem dX8_findBestRow_28 : decode cX8_findBestRow 28 = .ok (.invokevirtual 190, 3) := by decide +kernel
theorem dX8_findBestRow_31 : decode cX8_findBestRow 31 = .ok (.invokevirtual 421, 3) := by decide +kernel
theorem dX8_findBestRow_34 : decode cX8_findBestRow 34 = .ok (.aload_n 0, 1) := by decide +kernel
theorem dX8_findBestRow_35 : decode cX8_findBestRow 35 = .ok (.iconst 1, 1) := by decide +kernel
theorem dX8_findBestRow_36 : decode cX8_findBestRow 36 = .ok (.putfield 417, 3) := by decide +kernel
theorem dX8_findBestRow_39 : decode cX8_findBestRow 39 = .ok (.return_, 1) := by decide +kernel
theorem dX8_squeezedOffIn_0 : decode cX8_squeezedOffIn 0 = .ok (.aload_n 0, 1) := by decide +kernel
theorem dX8_squeezedOffIn_1 : decode cX8_squeezedOffIn 1 = .ok (.getfield 31, 3) := by decide +kernel
theorem dX8_squeezedOffIn_4 : decode cX8_squeezedOffIn 4 = .ok (.aload_n 0, 1) := by decide +kernel
theorem dX8_squeezedOffIn_5 : decode cX8_squeezedOffIn 5 = .ok (.getfield 72, 3) := by decide +kernel
theorem dX8_squeezedOffIn_8 : decode cX8_squeezedOffIn 8 = .ok (.iload_n 1, 1) := by decide +kernel
theorem dX8_squeezedOffIn_9 : decode cX8_squeezedOffIn 9 = .ok (.invokevirtual 169, 3) := by decide +kernel
theorem dX8_squeezedOffIn_12 : decode cX8_squeezedOffIn 12 = .ok (.invokevirtual 139, 3) := by decide +kernel
theorem dX8_squeezedOffIn_15 : decode cX8_squeezedOffIn 15 = .ok (.ifCond .ne 5, 3) := by decide +kernel
theorem dX8_squeezedOffIn_18 : decode cX8_squeezedOffIn 18 = .ok (.iconst (-1), 1) := by decide +kernel
theorem dX8_squeezedOffIn_19 : decode cX8_squeezedOffIn 19 = .ok (.ireturn, 1) := by decide +kernel
theorem dX8_squeezedOffIn_20 : decode cX8_squeezedOffIn 20 = .ok (.aload_n 0, 1) := by decide +kernel
theorem dX8_squeezedOffIn_21 : decode cX8_squeezedOffIn 21 = .ok (.getfield 24, 3) := by decide +kernel
theorem dX8_squeezedOffIn_24 : decode cX8_squeezedOffIn 24 = .ok (.aload_n 0, 1) := by decide +kernel
theorem dX8_squeezedOffIn_25 : decode cX8_squeezedOffIn 25 = .ok (.getfield 72, 3) := by decide +kernel
theorem dX8_squeezedOffIn_28 : decode cX8_squeezedOffIn 28 = .ok (.iconst 0, 1) := by decide +kernel
theorem dX8_squeezedOffIn_29 : decode cX8_squeezedOffIn 29 = .ok (.iload_n 1, 1) := by decide +kernel
theorem dX8_squeezedOffIn_30 : decode cX8_squeezedOffIn 30 = .ok (.invokevirtual 160, 3) := by decide +kernel
theorem dX8_squeezedOffIn_33 : decode cX8_squeezedOffIn 33 = .ok (.aload_n 0, 1) := by decide +kernel
theorem dX8_squeezedOffIn_34 : decode cX8_squeezedOffIn 34 = .ok (.getfield 72, 3) := by decide +kernel
theorem dX8_squeezedOffIn_37 : decode cX8_squeezedOffIn 37 = .ok (.iconst 1, 1) := by decide +kernel
theorem dX8_squeezedOffIn_38 : decode cX8_squeezedOffIn 38 = .ok (.iload_n 1, 1) := by decide +kernel
theorem dX8_squeezedOffIn_39 : decode cX8_squeezedOffIn 39 = .ok (.invokevirtual 160, 3) := by decide +kernel
theorem dX8_squeezedOffIn_42 : decode cX8_squeezedOffIn 42 = .ok (.aload_n 0, 1) := by decide +kernel
theorem dX8_squeezedOffIn_43 : decode cX8_squeezedOffIn 43 = .ok (.getfield 66, 3) := by decide +kernel
theorem dX8_squeezedOffIn_46 : decode cX8_squeezedOffIn 46 = .ok (.iconst 1, 1) := by decide +kernel
theorem dX8_squeezedOffIn_47 : decode cX8_squeezedOffIn 47 = .ok (.invokevirtual 190, 3) := by decide +kernel
theorem dX8_squeezedOffIn_50 : decode cX8_squeezedOffIn 50 = .ok (.invokevirtual 425, 3) := by decide +kernel
theorem dX8_squeezedOffIn_53 : decode cX8_squeezedOffIn 53 = .ok (.ireturn, 1) := by decide +kernel
theorem dX8_startOf_0 : decode cX8_startOf 0 = .ok (.iload_n 1, 1) := by decide +kernel
theorem dX8_startOf_1 : decode cX8_startOf 1 = .ok (.iload_n 2, 1) := by decide +kernel
theorem dX8_startOf_2 : decode cX8_startOf 2 = .ok (.if_icmp .gt 21, 3) := by decide +kernel
theorem dX8_startOf_5 : decode cX8_startOf 5 = .ok (.aload_n 0, 1) := by decide +kernel
theorem dX8_startOf_6 : decode cX8_startOf 6 = .ok (.getfield 50, 3) := by decide +kernel
theorem dX8_startOf_9 : decode cX8_startOf 9 = .ok (.iconst 0, 1) := by decide +kernel
theorem dX8_startOf_10 : decode cX8_startOf 10 = .ok (.invokevirtual 190, 3) := by decide +kernel
theorem dX8_startOf_13 : decode cX8_startOf 13 = .ok (.bipush 10, 2) := by decide +kernel
theorem dX8_startOf_15 : decode cX8_startOf 15 = .ok (.iload_n 2, 1) := by decide +kernel
theorem dX8_startOf_16 : decode cX8_startOf 16 = .ok (.iload_n 1, 1) := by decide +kernel
theorem dX8_startOf_17 : decode cX8_startOf 17 = .ok (.isub, 1) := by decide +kernel
theorem dX8_startOf_18 : decode cX8_startOf 18 = .ok (.imul, 1) := by decide +kernel
theorem dX8_startOf_19 : decode cX8_startOf 19 = .ok (.iadd, 1) := by decide +kernel
theorem dX8_startOf_20 : decode cX8_startOf 20 = .ok (.goto 4, 3) := by decide +kernel
theorem dX8_startOf_23 : decode cX8_startOf 23 = .ok (.iconst 0, 1) := by decide +kernel
theorem dX8_startOf_24 : decode cX8_startOf 24 = .ok (.istore_n 3, 1) := by decide +kernel
theorem dX8_startOf_25 : decode cX8_startOf 25 = .ok (.iload_n 2, 1) := by decide +kernel
theorem dX8_startOf_26 : decode cX8_startOf 26 = .ok (.iload_n 1, 1) := by decide +kernel
theorem dX8_startOf_27 : decode cX8_startOf 27 = .ok (.if_icmp .gt 21, 3) := by decide +kernel
theorem dX8_startOf_30 : decode cX8_startOf 30 = .ok (.aload_n 0, 1) := by decide +kernel
theorem dX8_startOf_31 : decode cX8_startOf 31 = .ok (.getfield 54, 3) := by decide +kernel
theorem dX8_startOf_34 : decode cX8_startOf 34 = .ok (.iconst 0, 1) := by decide +kernel
theorem dX8_startOf_35 : decode cX8_startOf 35 = .ok (.invokevirtual 190, 3) := by decide +kernel
theorem dX8_startOf_38 : decode cX8_startOf 38 = .ok (.bipush 10, 2) := by decide +kernel
theorem dX8_startOf_40 : decode cX8_startOf 40 = .ok (.iload_n 1, 1) := by decide +kernel
theorem dX8_startOf_41 : decode cX8_startOf 41 = .ok (.iload_n 2, 1) := by decide +kernel
theorem dX8_startOf_42 : decode cX8_startOf 42 = .ok (.isub, 1) := by decide +kernel
theorem dX8_startOf_43 : decode cX8_startOf 43 = .ok (.imul, 1) := by decide +kernel
theorem dX8_startOf_44 : decode cX8_startOf 44 = .ok (.iadd, 1) := by decide +kernel
theorem dX8_startOf_45 : decode cX8_startOf 45 = .ok (.goto 4, 3) := by decide +kernel
theorem dX8_startOf_48 : decode cX8_startOf 48 = .ok (.iconst 0, 1) := by decide +kernel
theorem dX8_startOf_49 : decode cX8_startOf 49 = .ok (.istore 4, 2) := by decide +kernel
theorem dX8_startOf_51 : decode cX8_startOf 51 = .ok (.aload_n 0, 1) := by decide +kernel
theorem dX8_startOf_52 : decode cX8_startOf 52 = .ok (.getfield 24, 3) := by decide +kernel
theorem dX8_startOf_55 : decode cX8_startOf 55 = .ok (.iload_n 3, 1) := by decide +kernel
theorem dX8_startOf_56 : decode cX8_startOf 56 = .ok (.iload 4, 2) := by decide +kernel
theorem dX8_startOf_58 : decode cX8_startOf 58 = .ok (.aload_n 0, 1) := by decide +kernel
theorem dX8_startOf_59 : decode cX8_startOf 59 = .ok (.getfield 66, 3) := by decide +kernel
theorem dX8_startOf_62 : decode cX8_startOf 62 = .ok (.iconst 0, 1) := by decide +kernel
theorem dX8_startOf_63 : decode cX8_startOf 63 = .ok (.invokevirtual 190, 3) := by decide +kernel
theorem dX8_startOf_66 : decode cX8_startOf 66 = .ok (.invokevirtual 193, 3) := by decide +kernel
theorem dX8_startOf_69 : decode cX8_startOf 69 = .ok (.ifCond .eq 5, 3) := by decide +kernel
theorem dX8_startOf_72 : decode cX8_startOf 72 = .ok (.iconst 1, 1) := by decide +kernel
theorem dX8_startOf_73 : decode cX8_startOf 73 = .ok (.ireturn, 1) := by decide +kernel
theorem dX8_startOf_74 : decode cX8_startOf 74 = .ok (.aload_n 0, 1) := by decide +kernel
theorem dX8_startOf_75 : decode cX8_startOf 75 = .ok (.getfield 24, 3) := by decide +kernel
theorem dX8_startOf_78 : decode cX8_startOf 78 = .ok (.iload_n 3, 1) := by decide +kernel
theorem dX8_startOf_79 : decode cX8_startOf 79 = .ok (.iload 4, 2) := by decide +kernel
theorem dX8_startOf_81 : decode cX8_startOf 81 = .ok (.aload_n 0, 1) := by decide +kernel
theorem dX8_startOf_82 : decode cX8_startOf 82 = .ok (.getfield 66, 3) := by decide +kernel
theorem dX8_startOf_85 : decode cX8_startOf 85 = .ok (.iconst 1, 1) := by decide +kernel
theorem dX8_startOf_86 : decode cX8_startOf 86 = .ok (.invokevirtual 190, 3) := by decide +kernel
theorem dX8_startOf_89 : decode cX8_startOf 89 = .ok (.invokevirtual 425, 3) := by decide +kernel
theorem dX8_startOf_92 : decode cX8_startOf 92 = .ok (.iconst (-1), 1) := by decide +kernel
theorem dX8_startOf_93 : decode cX8_startOf 93 = .ok (.if_icmp .ne 7, 3) := by decide +kernel
theorem dX8_startOf_96 : decode cX8_startOf 96 = .ok (.iconst 0, 1) := by decide +kernel
theorem dX8_startOf_97 : decode cX8_startOf 97 = .ok (.goto 4, 3) := by decide +kernel
theorem dX8_startOf_100 : decode cX8_startOf 100 = .ok (.iconst 2, 1) := by decide +kernel
theorem dX8_startOf_101 : decode cX8_startOf 101 = .ok (.ireturn, 1) := by decide +kernel
theorem dX8_busyMinutes_0 : decode cX8_busyMinutes 0 = .ok (.aload_n 0, 1) := by decide +kernel
theorem dX8_busyMinutes_1 : decode cX8_busyMinutes 1 = .ok (.getfield 66, 3) := by decide +kernel
theorem dX8_busyMinutes_4 : decode cX8_busyMinutes 4 = .ok (.iconst 2, 1) := by decide +kernel
theorem dX8_busyMinutes_5 : decode cX8_busyMinutes 5 = .ok (.invokevirtual 190, 3) := by decide +kernel
theorem dX8_busyMinutes_8 : decode cX8_busyMinutes 8 = .ok (.aload_n 0, 1) := by decide +kernel
theorem dX8_busyMinutes_9 : decode cX8_busyMinutes 9 = .ok (.getfield 66, 3) := by decide +kernel
theorem dX8_busyMinutes_12 : decode cX8_busyMinutes 12 = .ok (.iconst 3, 1) := by decide +kernel
theorem dX8_busyMinutes_13 : decode cX8_busyMinutes 13 = .ok (.invokevirtual 190, 3) := by decide +kernel
theorem dX8_busyMinutes_16 : decode cX8_busyMinutes 16 = .ok (.iadd, 1) := by decide +kernel
theorem dX8_busyMinutes_17 : decode cX8_busyMinutes 17 = .ok (.ireturn, 1) := by decide +kernel
theorem dX8_found_0 : decode cX8_found 0 = .ok (.aload_n 0, 1) := by decide +kernel
theorem dX8_found_1 : decode cX8_found 1 = .ok (.iload_n 1, 1) := by decide +kernel
theorem dX8_found_2 : decode cX8_found 2 = .ok (.putfield 97, 3) := by decide +kernel
theorem dX8_found_5 : decode cX8_found 5 = .ok (.bipush (-10), 2) := by decide +kernel
theorem dX8_found_7 : decode cX8_found 7 = .ok (.iload_n 1, 1) := by decide +kernel
theorem dX8_found_8 : decode cX8_found 8 = .ok (.isub, 1) := by decide +kernel
theorem dX8_found_9 : decode cX8_found 9 = .ok (.ireturn, 1) := by decide +kernel
theorem dX8_findingOfItem_0 : decode cX8_findingOfItem 0 = .ok (.aload_n 0, 1) := by decide +kernel
theorem dX8_findingOfItem_1 : decode cX8_findingOfItem 1 = .ok (.invokevirtual 242, 3) := by decide +kernel
theorem dX8_findingOfItem_4 : decode cX8_findingOfItem 4 = .ok (.ifCond .eq 5, 3) := by decide +kernel
theorem dX8_findingOfItem_7 : decode cX8_findingOfItem 7 = .ok (.iconst 1, 1) := by decide +kernel
theorem dX8_findingOfItem_8 : decode cX8_findingOfItem 8 = .ok (.ireturn, 1) := by decide +kernel
theorem dX8_findingOfItem_9 : decode cX8_findingOfItem 9 = .ok (.aload_n 0, 1) := by decide +kernel
theorem dX8_findingOfItem_10 : decode cX8_findingOfItem 10 = .ok (.iload_n 1, 1) := by decide +kernel
theorem dX8_findingOfItem_11 : decode cX8_findingOfItem 11 = .ok (.invokevirtual 292, 3) := by decide +kernel
theorem dX8_findingOfItem_14 : decode cX8_findingOfItem 14 = .ok (.ifCond .ne 5, 3) := by decide +kernel
theorem dX8_findingOfItem_17 : decode cX8_findingOfItem 17 = .ok (.iconst 3, 1) := by decide +kernel
theorem dX8_findingOfItem_18 : decode cX8_findingOfItem 18 = .ok (.ireturn, 1) := by decide +kernel
theorem dX8_findingOfItem_19 : decode cX8_findingOfItem 19 = .ok (.aload_n 0, 1) := by decide +kernel
theorem dX8_findingOfItem_20 : decode cX8_findingOfItem 20 = .ok (.iload_n 2, 1) := by decide +kernel
theorem dX8_findingOfItem_21 : decode cX8_findingOfItem 21 = .ok (.iconst 1, 1) := by decide +kernel
theorem dX8_findingOfItem_22 : decode cX8_findingOfItem 22 = .ok (.invokevirtual 295, 3) := by decide +kernel
theorem dX8_findingOfItem_25 : decode cX8_findingOfItem 25 = .ok (.ifCond .eq 7, 3) := by decide +kernel
theorem dX8_findingOfItem_28 : decode cX8_findingOfItem 28 = .ok (.iconst 0, 1) := by decide +kernel
theorem dX8_findingOfItem_29 : decode cX8_findingOfItem 29 = .ok (.goto 4, 3) := by decide +kernel
theorem dX8_findingOfItem_32 : decode cX8_findingOfItem 32 = .ok (.iconst 2, 1) := by decide +kernel
theorem dX8_findingOfItem_33 : decode cX8_findingOfItem 33 = .ok (.ireturn, 1) := by decide +kernel
theorem dX8_textAt_0 : decode cX8_textAt 0 = .ok (.iload_n 1, 1) := by decide +kernel
theorem dX8_textAt_1 : decode cX8_textAt 1 = .ok (.ifCond .ne 8, 3) := by decide +kernel
theorem dX8_textAt_4 : decode cX8_textAt 4 = .ok (.aload_n 0, 1) := by decide +kernel
theorem dX8_textAt_5 : decode cX8_textAt 5 = .ok (.getfield 14, 3) := by decide +kernel
theorem dX8_textAt_8 : decode cX8_textAt 8 = .ok (.areturn, 1) := by decide +kernel
theorem dX8_textAt_9 : decode cX8_textAt 9 = .ok (.iload_n 1, 1) := by decide +kernel
theorem dX8_textAt_10 : decode cX8_textAt 10 = .ok (.iconst 1, 1) := by decide +kernel
theorem dX8_textAt_11 : decode cX8_textAt 11 = .ok (.if_icmp .ne 10, 3) := by decide +kernel
theorem dX8_textAt_14 : decode cX8_textAt 14 = .ok (.aload_n 0, 1) := by decide +kernel
theorem dX8_textAt_15 : decode cX8_textAt 15 = .ok (.getfield 18, 3) := by decide +kernel
theorem dX8_textAt_18 : decode cX8_textAt 18 = .ok (.goto 4, 3) := by decide +kernel
theorem dX8_textAt_21 : decode cX8_textAt 21 = .ok (.aconst_null, 1) := by decide +kernel
theorem dX8_textAt_22 : decode cX8_textAt 22 = .ok (.areturn, 1) := by decide +kernel
theorem dX8_engineAt_0 : decode cX8_engineAt 0 = .ok (.iload_n 1, 1) := by decide +kernel
theorem dX8_engineAt_1 : decode cX8_engineAt 1 = .ok (.ifCond .ne 10, 3) := by decide +kernel
theorem dX8_engineAt_4 : decode cX8_engineAt 4 = .ok (.aload_n 0, 1) := by decide +kernel
theorem dX8_engineAt_5 : decode cX8_engineAt 5 = .ok (.getfield 50, 3) := by decide +kernel
theorem dX8_engineAt_8 : decode cX8_engineAt 8 = .ok (.goto 7, 3) := by decide +kernel
theorem dX8_engineAt_11 : decode cX8_engineAt 11 = .ok (.aload_n 0, 1) := by decide +kernel
theorem dX8_engineAt_12 : decode cX8_engineAt 12 = .ok (.getfield 54, 3) := by decide +kernel
theorem dX8_engineAt_15 : decode cX8_engineAt 15 = .ok (.areturn, 1) := by decide +kernel
theorem dX8_sheetAt_0 : decode cX8_sheetAt 0 = .ok (.iload_n 1, 1) := by decide +kernel
theorem dX8_sheetAt_1 : decode cX8_sheetAt 1 = .ok (.ifCond .lt 21, 3) := by decide +kernel
theorem dX8_sheetAt_4 : decode cX8_sheetAt 4 = .ok (.iload_n 1, 1) := by decide +kernel
theorem dX8_sheetAt_5 : decode cX8_sheetAt 5 = .ok (.aload_n 0, 1) := by decide +kernel
theorem dX8_sheetAt_6 : decode cX8_sheetAt 6 = .ok (.getfield 92, 3) := by decide +kernel
theorem dX8_sheetAt_9 : decode cX8_sheetAt 9 = .ok (.arraylength, 1) := by decide +kernel
theorem dX8_sheetAt_10 : decode cX8_sheetAt 10 = .ok (.if_icmp .ge 12, 3) := by decide +kernel
theorem dX8_sheetAt_13 : decode cX8_sheetAt 13 = .ok (.aload_n 0, 1) := by decide +kernel
theorem dX8_sheetAt_14 : decode cX8_sheetAt 14 = .ok (.getfield 92, 3) := by decide +kernel
theorem dX8_sheetAt_17 : decode cX8_sheetAt 17 = .ok (.iload_n 1, 1) := by decide +kernel
theorem dX8_sheetAt_18 : decode cX8_sheetAt 18 = .ok (.aaload, 1) := by decide +kernel
theorem dX8_sheetAt_19 : decode cX8_sheetAt 19 = .ok (.goto 4, 3) := by decide +kernel
theorem dX8_sheetAt_22 : decode cX8_sheetAt 22 = .ok (.aconst_null, 1) := by decide +kernel
theorem dX8_sheetAt_23 : decode cX8_sheetAt 23 = .ok (.areturn, 1) := by decide +kernel
theorem dX8_isEngine_0 : decode cX8_isEngine 0 = .ok (.iload_n 0, 1) := by decide +kernel
theorem dX8_isEngine_1 : decode cX8_isEngine 1 = .ok (.ifCond .eq 8, 3) := by decide +kernel
theorem dX8_isEngine_4 : decode cX8_isEngine 4 = .ok (.iload_n 0, 1) := by decide +kernel
theorem dX8_isEngine_5 : decode cX8_isEngine 5 = .ok (.iconst 1, 1) := by decide +kernel
theorem dX8_isEngine_6 : decode cX8_isEngine 6 = .ok (.if_icmp .ne 7, 3) := by decide +kernel
theorem dX8_isEngine_9 : decode cX8_isEngine 9 = .ok (.iconst 1, 1) := by decide +kernel
theorem dX8_isEngine_10 : decode cX8_isEngine 10 = .ok (.goto 4, 3) := by decide +kernel
theorem dX8_isEngine_13 : decode cX8_isEngine 13 = .ok (.iconst 0, 1) := by decide +kernel
theorem dX8_isEngine_14 : decode cX8_isEngine 14 = .ok (.ireturn, 1) := by decide +kernel
theorem dX8_isMinute_0 : decode cX8_isMinute 0 = .ok (.iload_n 0, 1) := by decide +kernel
theorem dX8_isMinute_1 : decode cX8_isMinute 1 = .ok (.ifCond .lt 13, 3) := by decide +kernel
theorem dX8_isMinute_4 : decode cX8_isMinute 4 = .ok (.iload_n 0, 1) := by decide +kernel
theorem dX8_isMinute_5 : decode cX8_isMinute 5 = .ok (.bipush 40, 2) := by decide +kernel
theorem dX8_isMinute_7 : decode cX8_isMinute 7 = .ok (.if_icmp .ge 7, 3) := by decide +kernel
theorem dX8_isMinute_10 : decode cX8_isMinute 10 = .ok (.iconst 1, 1) := by decide +kernel
theorem dX8_isMinute_11 : decode cX8_isMinute 11 = .ok (.goto 4, 3) := by decide +kernel
theorem dX8_isMinute_14 : decode cX8_isMinute 14 = .ok (.iconst 0, 1) := by decide +kernel
theorem dX8_isMinute_15 : decode cX8_isMinute 15 = .ok (.ireturn, 1) := by decide +kernel
theorem dX8_isSecond_0 : decode cX8_isSecond 0 = .ok (.iload_n 0, 1) := by decide +kernel
theorem dX8_isSecond_1 : decode cX8_isSecond 1 = .ok (.ifCond .lt 13, 3) := by decide +kernel
theorem dX8_isSecond_4 : decode cX8_isSecond 4 = .ok (.iload_n 0, 1) := by decide +kernel
theorem dX8_isSecond_5 : decode cX8_isSecond 5 = .ok (.bipush 10, 2) := by decide +kernel
theorem dX8_isSecond_7 : decode cX8_isSecond 7 = .ok (.if_icmp .ge 7, 3) := by decide +kernel
theorem dX8_isSecond_10 : decode cX8_isSecond 10 = .ok (.iconst 1, 1) := by decide +kernel
theorem dX8_isSecond_11 : decode cX8_isSecond 11 = .ok (.goto 4, 3) := by decide +kernel
theorem dX8_isSecond_14 : decode cX8_isSecond 14 = .ok (.iconst 0, 1) := by decide +kernel
theorem dX8_isSecond_15 : decode cX8_isSecond 15 = .ok (.ireturn, 1) := by decide +kernel
theorem dX8_isFootMinute_0 : decode cX8_isFootMinute 0 = .ok (.iload_n 0, 1) := by decide +kernel
theorem dX8_isFootMinute_1 : decode cX8_isFootMinute 1 = .ok (.ifCond .lt 14, 3) := by decide +kernel
theorem dX8_isFootMinute_4 : decode cX8_isFootMinute 4 = .ok (.iload_n 0, 1) := by decide +kernel
theorem dX8_isFootMinute_5 : decode cX8_isFootMinute 5 = .ok (.sipush 999, 3) := by decide +kernel
theorem dX8_isFootMinute_8 : decode cX8_isFootMinute 8 = .ok (.if_icmp .gt 7, 3) := by decide +kernel
theorem dX8_isFootMinute_11 : decode cX8_isFootMinute 11 = .ok (.iconst 1, 1) := by decide +kernel
theorem dX8_isFootMinute_12 : decode cX8_isFootMinute 12 = .ok (.goto 4, 3) := by decide +kernel
theorem dX8_isFootMinute_15 : decode cX8_isFootMinute 15 = .ok (.iconst 0, 1) := by decide +kernel
theorem dX8_isFootMinute_16 : decode cX8_isFootMinute 16 = .ok (.ireturn, 1) := by decide +kernel
theorem dX8_isForm_0 : decode cX8_isForm 0 = .ok (.iload_n 0, 1) := by decide +kernel
theorem dX8_isForm_1 : decode cX8_isForm 1 = .ok (.ifCond .lt 12, 3) := by decide +kernel
theorem dX8_isForm_4 : decode cX8_isForm 4 = .ok (.iload_n 0, 1) := by decide +kernel
theorem dX8_isForm_5 : decode cX8_isForm 5 = .ok (.iconst 3, 1) := by decide +kernel
theorem dX8_isForm_6 : decode cX8_isForm 6 = .ok (.if_icmp .ge 7, 3) := by decide +kernel
theorem dX8_isForm_9 : decode cX8_isForm 9 = .ok (.iconst 1, 1) := by decide +kernel
theorem dX8_isForm_10 : decode cX8_isForm 10 = .ok (.goto 4, 3) := by decide +kernel
theorem dX8_isForm_13 : decode cX8_isForm 13 = .ok (.iconst 0, 1) := by decide +kernel
theorem dX8_isForm_14 : decode cX8_isForm 14 = .ok (.ireturn, 1) := by decide +kernel
theorem dX8_isZeroOrOne_0 : decode cX8_isZeroOrOne 0 = .ok (.iload_n 0, 1) := by decide +kernel
theorem dX8_isZeroOrOne_1 : decode cX8_isZeroOrOne 1 = .ok (.ifCond .eq 8, 3) := by decide +kernel
theorem dX8_isZeroOrOne_4 : decode cX8_isZeroOrOne 4 = .ok (.iload_n 0, 1) := by decide +kernel
theorem dX8_isZeroOrOne_5 : decode cX8_isZeroOrOne 5 = .ok (.iconst 1, 1) := by decide +kernel
theorem dX8_isZeroOrOne_6 : decode cX8_isZeroOrOne 6 = .ok (.if_icmp .ne 7, 3) := by decide +kernel
theorem dX8_isZeroOrOne_9 : decode cX8_isZeroOrOne 9 = .ok (.iconst 1, 1) := by decide +kernel
theorem dX8_isZeroOrOne_10 : decode cX8_isZeroOrOne 10 = .ok (.goto 4, 3) := by decide +kernel
theorem dX8_isZeroOrOne_13 : decode cX8_isZeroOrOne 13 = .ok (.iconst 0, 1) := by decide +kernel
theorem dX8_isZeroOrOne_14 : decode cX8_isZeroOrOne 14 = .ok (.ireturn, 1) := by decide +kernel
theorem dX8_refusedAsLong_0 : decode cX8_refusedAsLong 0 = .ok (.ldc2_w 428, 3) := by decide +kernel
theorem dX8_refusedAsLong_3 : decode cX8_refusedAsLong 3 = .ok (.iload_n 0, 1) := by decide +kernel
theorem dX8_refusedAsLong_4 : decode cX8_refusedAsLong 4 = .ok (.i2l, 1) := by decide +kernel
theorem dX8_refusedAsLong_5 : decode cX8_refusedAsLong 5 = .ok (.lsub, 1) := by decide +kernel
theorem dX8_refusedAsLong_6 : decode cX8_refusedAsLong 6 = .ok (.lreturn, 1) := by decide +kernel
theorem dX8_inLowestTerms_0 : decode cX8_inLowestTerms 0 = .ok (.lload_n 0, 1) := by decide +kernel
theorem dX8_inLowestTerms_1 : decode cX8_inLowestTerms 1 = .ok (.invokestatic 430, 3) := by decide +kernel
theorem dX8_inLowestTerms_4 : decode cX8_inLowestTerms 4 = .ok (.lload_n 2, 1) := by decide +kernel
theorem dX8_inLowestTerms_5 : decode cX8_inLowestTerms 5 = .ok (.invokestatic 433, 3) := by decide +kernel
theorem dX8_inLowestTerms_8 : decode cX8_inLowestTerms 8 = .ok (.lstore 5, 2) := by decide +kernel
theorem dX8_inLowestTerms_10 : decode cX8_inLowestTerms 10 = .ok (.lload 5, 2) := by decide +kernel
theorem dX8_inLowestTerms_12 : decode cX8_inLowestTerms 12 = .ok (.lconst 0, 1) := by decide +kernel
theorem dX8_inLowestTerms_13 : decode cX8_inLowestTerms 13 = .ok (.lcmp, 1) := by decide +kernel
theorem dX8_inLowestTerms_14 : decode cX8_inLowestTerms 14 = .ok (.ifCond .ne 14, 3) := by decide +kernel
theorem dX8_inLowestTerms_17 : decode cX8_inLowestTerms 17 = .ok (.iload 4, 2) := by decide +kernel
theorem dX8_inLowestTerms_19 : decode cX8_inLowestTerms 19 = .ok (.ifCond .ne 7, 3) := by decide +kernel
theorem dX8_inLowestTerms_22 : decode cX8_inLowestTerms 22 = .ok (.lconst 0, 1) := by decide +kernel
theorem dX8_inLowestTerms_23 : decode cX8_inLowestTerms 23 = .ok (.goto 4, 3) := by decide +kernel
theorem dX8_inLowestTerms_26 : decode cX8_inLowestTerms 26 = .ok (.lconst 1, 1) := by decide +kernel
theorem dX8_inLowestTerms_27 : decode cX8_inLowestTerms 27 = .ok (.lreturn, 1) := by decide +kernel
theorem dX8_inLowestTerms_28 : decode cX8_inLowestTerms 28 = .ok (.iload 4, 2) := by decide +kernel
theorem dX8_inLowestTerms_30 : decode cX8_inLowestTerms 30 = .ok (.ifCond .ne 7, 3) := by decide +kernel
theorem dX8_inLowestTerms_33 : decode cX8_inLowestTerms 33 = .ok (.lload_n 0, 1) := by decide +kernel
theorem dX8_inLowestTerms_34 : decode cX8_inLowestTerms 34 = .ok (.goto 4, 3) := by decide +kernel
theorem dX8_inLowestTerms_37 : decode cX8_inLowestTerms 37 = .ok (.lload_n 2, 1) := by decide +kernel
theorem dX8_inLowestTerms_38 : decode cX8_inLowestTerms 38 = .ok (.lload 5, 2) := by decide +kernel
theorem dX8_inLowestTerms_40 : decode cX8_inLowestTerms 40 = .ok (.ldiv, 1) := by decide +kernel
theorem dX8_inLowestTerms_41 : decode cX8_inLowestTerms 41 = .ok (.lreturn, 1) := by decide +kernel
theorem dX8_commonDivisor_0 : decode cX8_commonDivisor 0 = .ok (.lload_n 0, 1) := by decide +kernel
theorem dX8_commonDivisor_1 : decode cX8_commonDivisor 1 = .ok (.lstore 4, 2) := by decide +kernel
theorem dX8_commonDivisor_3 : decode cX8_commonDivisor 3 = .ok (.lload_n 2, 1) := by decide +kernel
theorem dX8_commonDivisor_4 : decode cX8_commonDivisor 4 = .ok (.lstore 6, 2) := by decide +kernel
theorem dX8_commonDivisor_6 : decode cX8_commonDivisor 6 = .ok (.iconst 0, 1) := by decide +kernel
theorem dX8_commonDivisor_7 : decode cX8_commonDivisor 7 = .ok (.istore 8, 2) := by decide +kernel
theorem dX8_commonDivisor_9 : decode cX8_commonDivisor 9 = .ok (.iload 8, 2) := by decide +kernel
theorem dX8_commonDivisor_11 : decode cX8_commonDivisor 11 = .ok (.sipush 200, 3) := by decide +kernel
theorem dX8_commonDivisor_14 : decode cX8_commonDivisor 14 = .ok (.if_icmp .ge 31, 3) := by decide +kernel
theorem dX8_commonDivisor_17 : decode cX8_commonDivisor 17 = .ok (.lload 6, 2) := by decide +kernel
theorem dX8_commonDivisor_19 : decode cX8_commonDivisor 19 = .ok (.lconst 0, 1) := by decide +kernel
theorem dX8_commonDivisor_20 : decode cX8_commonDivisor 20 = .ok (.lcmp, 1) := by decide +kernel
theorem dX8_commonDivisor_21 : decode cX8_commonDivisor 21 = .ok (.ifCond .eq 24, 3) := by decide +kernel
theorem dX8_commonDivisor_24 : decode cX8_commonDivisor 24 = .ok (.lload 4, 2) := by decide +kernel
theorem dX8_commonDivisor_26 : decode cX8_commonDivisor 26 = .ok (.lload 6, 2) := by decide +kernel
theorem dX8_commonDivisor_28 : decode cX8_commonDivisor 28 = .ok (.lrem, 1) := by decide +kernel
theorem dX8_commonDivisor_29 : decode cX8_commonDivisor 29 = .ok (.lstore 9, 2) := by decide +kernel
theorem dX8_commonDivisor_31 : decode cX8_commonDivisor 31 = .ok (.lload 6, 2) := by decide +kernel
theorem dX8_commonDivisor_33 : decode cX8_commonDivisor 33 = .ok (.lstore 4, 2) := by decide +kernel
theorem dX8_commonDivisor_35 : decode cX8_commonDivisor 35 = .ok (.lload 9, 2) := by decide +kernel
theorem dX8_commonDivisor_37 : decode cX8_commonDivisor 37 = .ok (.lstore 6, 2) := by decide +kernel
theorem dX8_commonDivisor_39 : decode cX8_commonDivisor 39 = .ok (.iinc 8 1, 3) := by decide +kernel
theorem dX8_commonDivisor_42 : decode cX8_commonDivisor 42 = .ok (.goto (-33), 3) := by decide +kernel
theorem dX8_commonDivisor_45 : decode cX8_commonDivisor 45 = .ok (.lload 4, 2) := by decide +kernel
theorem dX8_commonDivisor_47 : decode cX8_commonDivisor 47 = .ok (.lreturn, 1) := by decide +kernel
theorem dX8_power_0 : decode cX8_power 0 = .ok (.lconst 1, 1) := by decide +kernel
theorem dX8_power_1 : decode cX8_power 1 = .ok (.lstore_n 2, 1) := by decide +kernel
theorem dX8_power_2 : decode cX8_power 2 = .ok (.iconst 0, 1) := by decide +kernel
theorem dX8_power_3 : decode cX8_power 3 = .ok (.istore 4, 2) := by decide +kernel
theorem dX8_power_5 : decode cX8_power 5 = .ok (.iload 4, 2) := by decide +kernel
theorem dX8_power_7 : decode cX8_power 7 = .ok (.iload_n 1, 1) := by decide +kernel
theorem dX8_power_8 : decode cX8_power 8 = .ok (.if_icmp .ge 14, 3) := by decide +kernel
theorem dX8_power_11 : decode cX8_power 11 = .ok (.lload_n 2, 1) := by decide +kernel
theorem dX8_power_12 : decode cX8_power 12 = .ok (.iload_n 0, 1) := by decide +kernel
theorem dX8_power_13 : decode cX8_power 13 = .ok (.i2l, 1) := by decide +kernel
theorem dX8_power_14 : decode cX8_power 14 = .ok (.lmul, 1) := by decide +kernel
theorem dX8_power_15 : decode cX8_power 15 = .ok (.lstore_n 2, 1) := by decide +kernel
theorem dX8_power_16 : decode cX8_power 16 = .ok (.iinc 4 1, 3) := by decide +kernel
theorem dX8_power_19 : decode cX8_power 19 = .ok (.goto (-14), 3) := by decide +kernel
theorem dX8_power_22 : decode cX8_power 22 = .ok (.lload_n 2, 1) := by decide +kernel
theorem dX8_power_23 : decode cX8_power 23 = .ok (.lreturn, 1) := by decide +kernel
theorem dX8_choices_0 : decode cX8_choices 0 = .ok (.lconst 1, 1) := by decide +kernel
theorem dX8_choices_1 : decode cX8_choices 1 = .ok (.lstore_n 2, 1) := by decide +kernel
theorem dX8_choices_2 : decode cX8_choices 2 = .ok (.iconst 0, 1) := by decide +kernel
theorem dX8_choices_3 : decode cX8_choices 3 = .ok (.istore 4, 2) := by decide +kernel
theorem dX8_choices_5 : decode cX8_choices 5 = .ok (.iload 4, 2) := by decide +kernel
theorem dX8_choices_7 : decode cX8_choices 7 = .ok (.iload_n 1, 1) := by decide +kernel
theorem dX8_choices_8 : decode cX8_choices 8 = .ok (.if_icmp .ge 23, 3) := by decide +kernel
theorem dX8_choices_11 : decode cX8_choices 11 = .ok (.lload_n 2, 1) := by decide +kernel
theorem dX8_choices_12 : decode cX8_choices 12 = .ok (.iload_n 0, 1) := by decide +kernel
theorem dX8_choices_13 : decode cX8_choices 13 = .ok (.iload 4, 2) := by decide +kernel
theorem dX8_choices_15 : decode cX8_choices 15 = .ok (.isub, 1) := by decide +kernel
theorem dX8_choices_16 : decode cX8_choices 16 = .ok (.i2l, 1) := by decide +kernel
theorem dX8_choices_17 : decode cX8_choices 17 = .ok (.lmul, 1) := by decide +kernel
theorem dX8_choices_18 : decode cX8_choices 18 = .ok (.iload 4, 2) := by decide +kernel
theorem dX8_choices_20 : decode cX8_choices 20 = .ok (.iconst 1, 1) := by decide +kernel
theorem dX8_choices_21 : decode cX8_choices 21 = .ok (.iadd, 1) := by decide +kernel
theorem dX8_choices_22 : decode cX8_choices 22 = .ok (.i2l, 1) := by decide +kernel
theorem dX8_choices_23 : decode cX8_choices 23 = .ok (.ldiv, 1) := by decide +kernel
theorem dX8_choices_24 : decode cX8_choices 24 = .ok (.lstore_n 2, 1) := by decide +kernel
theorem dX8_choices_25 : decode cX8_choices 25 = .ok (.iinc 4 1, 3) := by decide +kernel
theorem dX8_choices_28 : decode cX8_choices 28 = .ok (.goto (-23), 3) := by decide +kernel
theorem dX8_choices_31 : decode cX8_choices 31 = .ok (.lload_n 2, 1) := by decide +kernel
theorem dX8_choices_32 : decode cX8_choices 32 = .ok (.lreturn, 1) := by decide +kernel
