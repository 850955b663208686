theorem d_Model_init_0 : decode b_Model_init 0 = .ok (.aload_n 0, 1) := by decide +kernel
theorem d_Model_init_1 : decode b_Model_init 1 = .ok (.invokespecial 1, 3) := by decide +kernel
theorem d_Model_init_4 : decode b_Model_init 4 = .ok (.aload_n 0, 1) := by decide +kernel
theorem d_Model_init_5 : decode b_Model_init 5 = .ok (.sipush 301, 3) := by decide +kernel
theorem d_Model_init_8 : decode b_Model_init 8 = .ok (.newarray .long, 2) := by decide +kernel
theorem d_Model_init_10 : decode b_Model_init 10 = .ok (.putfield 7, 3) := by decide +kernel
theorem d_Model_init_13 : decode b_Model_init 13 = .ok (.aload_n 0, 1) := by decide +kernel
theorem d_Model_init_14 : decode b_Model_init 14 = .ok (.sipush 301, 3) := by decide +kernel
theorem d_Model_init_17 : decode b_Model_init 17 = .ok (.newarray .int, 2) := by decide +kernel
theorem d_Model_init_19 : decode b_Model_init 19 = .ok (.putfield 13, 3) := by decide +kernel
theorem d_Model_init_22 : decode b_Model_init 22 = .ok (.aload_n 0, 1) := by decide +kernel
theorem d_Model_init_23 : decode b_Model_init 23 = .ok (.sipush 301, 3) := by decide +kernel
theorem d_Model_init_26 : decode b_Model_init 26 = .ok (.newarray .int, 2) := by decide +kernel
theorem d_Model_init_28 : decode b_Model_init 28 = .ok (.putfield 17, 3) := by decide +kernel
theorem d_Model_init_31 : decode b_Model_init 31 = .ok (.aload_n 0, 1) := by decide +kernel
theorem d_Model_init_32 : decode b_Model_init 32 = .ok (.sipush 301, 3) := by decide +kernel
theorem d_Model_init_35 : decode b_Model_init 35 = .ok (.newarray .int, 2) := by decide +kernel
theorem d_Model_init_37 : decode b_Model_init 37 = .ok (.putfield 20, 3) := by decide +kernel
theorem d_Model_init_40 : decode b_Model_init 40 = .ok (.aload_n 0, 1) := by decide +kernel
theorem d_Model_init_41 : decode b_Model_init 41 = .ok (.sipush 301, 3) := by decide +kernel
theorem d_Model_init_44 : decode b_Model_init 44 = .ok (.newarray .int, 2) := by decide +kernel
theorem d_Model_init_46 : decode b_Model_init 46 = .ok (.putfield 23, 3) := by decide +kernel
theorem d_Model_init_49 : decode b_Model_init 49 = .ok (.aload_n 0, 1) := by decide +kernel
theorem d_Model_init_50 : decode b_Model_init 50 = .ok (.sipush 903, 3) := by decide +kernel
theorem d_Model_init_53 : decode b_Model_init 53 = .ok (.newarray .int, 2) := by decide +kernel
theorem d_Model_init_55 : decode b_Model_init 55 = .ok (.putfield 26, 3) := by decide +kernel
theorem d_Model_init_58 : decode b_Model_init 58 = .ok (.aload_n 0, 1) := by decide +kernel
theorem d_Model_init_59 : decode b_Model_init 59 = .ok (.sipush 6020, 3) := by decide +kernel
theorem d_Model_init_62 : decode b_Model_init 62 = .ok (.newarray .int, 2) := by decide +kernel
theorem d_Model_init_64 : decode b_Model_init 64 = .ok (.putfield 29, 3) := by decide +kernel
theorem d_Model_init_67 : decode b_Model_init 67 = .ok (.aload_n 0, 1) := by decide +kernel
theorem d_Model_init_68 : decode b_Model_init 68 = .ok (.sipush 6020, 3) := by decide +kernel
theorem d_Model_init_71 : decode b_Model_init 71 = .ok (.newarray .int, 2) := by decide +kernel
theorem d_Model_init_73 : decode b_Model_init 73 = .ok (.putfield 32, 3) := by decide +kernel
theorem d_Model_init_76 : decode b_Model_init 76 = .ok (.aload_n 0, 1) := by decide +kernel
theorem d_Model_init_77 : decode b_Model_init 77 = .ok (.sipush 6020, 3) := by decide +kernel
theorem d_Model_init_80 : decode b_Model_init 80 = .ok (.newarray .int, 2) := by decide +kernel
theorem d_Model_init_82 : decode b_Model_init 82 = .ok (.putfield 35, 3) := by decide +kernel
theorem d_Model_init_85 : decode b_Model_init 85 = .ok (.aload_n 0, 1) := by decide +kernel
theorem d_Model_init_86 : decode b_Model_init 86 = .ok (.bipush 20, 2) := by decide +kernel
theorem d_Model_init_88 : decode b_Model_init 88 = .ok (.newarray .boolean, 2) := by decide +kernel
theorem d_Model_init_90 : decode b_Model_init 90 = .ok (.putfield 38, 3) := by decide +kernel
theorem d_Model_init_93 : decode b_Model_init 93 = .ok (.aload_n 0, 1) := by decide +kernel
theorem d_Model_init_94 : decode b_Model_init 94 = .ok (.bipush 20, 2) := by decide +kernel
theorem d_Model_init_96 : decode b_Model_init 96 = .ok (.newarray .int, 2) := by decide +kernel
theorem d_Model_init_98 : decode b_Model_init 98 = .ok (.putfield 42, 3) := by decide +kernel
theorem d_Model_init_101 : decode b_Model_init 101 = .ok (.aload_n 0, 1) := by decide +kernel
theorem d_Model_init_102 : decode b_Model_init 102 = .ok (.bipush 20, 2) := by decide +kernel
theorem d_Model_init_104 : decode b_Model_init 104 = .ok (.newarray .int, 2) := by decide +kernel
theorem d_Model_init_106 : decode b_Model_init 106 = .ok (.putfield 45, 3) := by decide +kernel
theorem d_Model_init_109 : decode b_Model_init 109 = .ok (.aload_n 0, 1) := by decide +kernel
theorem d_Model_init_110 : decode b_Model_init 110 = .ok (.iload_n 1, 1) := by decide +kernel
theorem d_Model_init_111 : decode b_Model_init 111 = .ok (.iconst 1, 1) := by decide +kernel
theorem d_Model_init_112 : decode b_Model_init 112 = .ok (.if_icmp .ge 7, 3) := by decide +kernel
theorem d_Model_init_115 : decode b_Model_init 115 = .ok (.iconst 1, 1) := by decide +kernel
theorem d_Model_init_116 : decode b_Model_init 116 = .ok (.goto 15, 3) := by decide +kernel
theorem d_Model_init_119 : decode b_Model_init 119 = .ok (.iload_n 1, 1) := by decide +kernel
theorem d_Model_init_120 : decode b_Model_init 120 = .ok (.bipush 100, 2) := by decide +kernel
theorem d_Model_init_122 : decode b_Model_init 122 = .ok (.if_icmp .le 8, 3) := by decide +kernel
theorem d_Model_init_125 : decode b_Model_init 125 = .ok (.bipush 100, 2) := by decide +kernel
theorem d_Model_init_127 : decode b_Model_init 127 = .ok (.goto 4, 3) := by decide +kernel
theorem d_Model_init_130 : decode b_Model_init 130 = .ok (.iload_n 1, 1) := by decide +kernel
theorem d_Model_init_131 : decode b_Model_init 131 = .ok (.putfield 48, 3) := by decide +kernel
theorem d_Model_init_134 : decode b_Model_init 134 = .ok (.iconst 0, 1) := by decide +kernel
theorem d_Model_init_135 : decode b_Model_init 135 = .ok (.istore_n 2, 1) := by decide +kernel
theorem d_Model_init_136 : decode b_Model_init 136 = .ok (.iload_n 2, 1) := by decide +kernel
theorem d_Model_init_137 : decode b_Model_init 137 = .ok (.sipush 6020, 3) := by decide +kernel
theorem d_Model_init_140 : decode b_Model_init 140 = .ok (.if_icmp .ge 16, 3) := by decide +kernel
theorem d_Model_init_143 : decode b_Model_init 143 = .ok (.aload_n 0, 1) := by decide +kernel
theorem d_Model_init_144 : decode b_Model_init 144 = .ok (.getfield 35, 3) := by decide +kernel
theorem d_Model_init_147 : decode b_Model_init 147 = .ok (.iload_n 2, 1) := by decide +kernel
theorem d_Model_init_148 : decode b_Model_init 148 = .ok (.iconst (-1), 1) := by decide +kernel
theorem d_Model_init_149 : decode b_Model_init 149 = .ok (.iastore, 1) := by decide +kernel
theorem d_Model_init_150 : decode b_Model_init 150 = .ok (.iinc 2 1, 3) := by decide +kernel
theorem d_Model_init_153 : decode b_Model_init 153 = .ok (.goto (-17), 3) := by decide +kernel
theorem d_Model_init_156 : decode b_Model_init 156 = .ok (.return_, 1) := by decide +kernel
theorem d_Model_isIn_0 : decode b_Model_isIn 0 = .ok (.lload_n 0, 1) := by decide +kernel
theorem d_Model_isIn_1 : decode b_Model_isIn 1 = .ok (.lload_n 2, 1) := by decide +kernel
theorem d_Model_isIn_2 : decode b_Model_isIn 2 = .ok (.lcmp, 1) := by decide +kernel
theorem d_Model_isIn_3 : decode b_Model_isIn 3 = .ok (.ifCond .lt 14, 3) := by decide +kernel
theorem d_Model_isIn_6 : decode b_Model_isIn 6 = .ok (.lload_n 0, 1) := by decide +kernel
theorem d_Model_isIn_7 : decode b_Model_isIn 7 = .ok (.lload 4, 2) := by decide +kernel
theorem d_Model_isIn_9 : decode b_Model_isIn 9 = .ok (.lcmp, 1) := by decide +kernel
theorem d_Model_isIn_10 : decode b_Model_isIn 10 = .ok (.ifCond .gt 7, 3) := by decide +kernel
theorem d_Model_isIn_13 : decode b_Model_isIn 13 = .ok (.iconst 1, 1) := by decide +kernel
theorem d_Model_isIn_14 : decode b_Model_isIn 14 = .ok (.goto 4, 3) := by decide +kernel
theorem d_Model_isIn_17 : decode b_Model_isIn 17 = .ok (.iconst 0, 1) := by decide +kernel
theorem d_Model_isIn_18 : decode b_Model_isIn 18 = .ok (.ireturn, 1) := by decide +kernel
theorem d_Model_isPicture_0 : decode b_Model_isPicture 0 = .ok (.iload_n 1, 1) := by decide +kernel
theorem d_Model_isPicture_1 : decode b_Model_isPicture 1 = .ok (.i2l, 1) := by decide +kernel
theorem d_Model_isPicture_2 : decode b_Model_isPicture 2 = .ok (.lconst 1, 1) := by decide +kernel
theorem d_Model_isPicture_3 : decode b_Model_isPicture 3 = .ok (.aload_n 0, 1) := by decide +kernel
theorem d_Model_isPicture_4 : decode b_Model_isPicture 4 = .ok (.getfield 55, 3) := by decide +kernel
theorem d_Model_isPicture_7 : decode b_Model_isPicture 7 = .ok (.i2l, 1) := by decide +kernel
theorem d_Model_isPicture_8 : decode b_Model_isPicture 8 = .ok (.invokestatic 58, 3) := by decide +kernel
theorem d_Model_isPicture_11 : decode b_Model_isPicture 11 = .ok (.ireturn, 1) := by decide +kernel
theorem d_Model_isClerk_0 : decode b_Model_isClerk 0 = .ok (.iload_n 0, 1) := by decide +kernel
theorem d_Model_isClerk_1 : decode b_Model_isClerk 1 = .ok (.i2l, 1) := by decide +kernel
theorem d_Model_isClerk_2 : decode b_Model_isClerk 2 = .ok (.lconst 0, 1) := by decide +kernel
theorem d_Model_isClerk_3 : decode b_Model_isClerk 3 = .ok (.ldc2_w 62, 3) := by decide +kernel
theorem d_Model_isClerk_6 : decode b_Model_isClerk 6 = .ok (.invokestatic 58, 3) := by decide +kernel
theorem d_Model_isClerk_9 : decode b_Model_isClerk 9 = .ok (.ireturn, 1) := by decide +kernel
theorem d_Model_isTime_0 : decode b_Model_isTime 0 = .ok (.lload_n 1, 1) := by decide +kernel
theorem d_Model_isTime_1 : decode b_Model_isTime 1 = .ok (.aload_n 0, 1) := by decide +kernel
theorem d_Model_isTime_2 : decode b_Model_isTime 2 = .ok (.getfield 64, 3) := by decide +kernel
theorem d_Model_isTime_5 : decode b_Model_isTime 5 = .ok (.ldc2_w 68, 3) := by decide +kernel
theorem d_Model_isTime_8 : decode b_Model_isTime 8 = .ok (.invokestatic 58, 3) := by decide +kernel
theorem d_Model_isTime_11 : decode b_Model_isTime 11 = .ok (.ireturn, 1) := by decide +kernel
theorem d_Model_open_0 : decode b_Model_open 0 = .ok (.iconst 0, 1) := by decide +kernel
theorem d_Model_open_1 : decode b_Model_open 1 = .ok (.istore_n 1, 1) := by decide +kernel
theorem d_Model_open_2 : decode b_Model_open 2 = .ok (.iconst 1, 1) := by decide +kernel
theorem d_Model_open_3 : decode b_Model_open 3 = .ok (.istore_n 2, 1) := by decide +kernel
theorem d_Model_open_4 : decode b_Model_open 4 = .ok (.iload_n 2, 1) := by decide +kernel
theorem d_Model_open_5 : decode b_Model_open 5 = .ok (.aload_n 0, 1) := by decide +kernel
theorem d_Model_open_6 : decode b_Model_open 6 = .ok (.getfield 55, 3) := by decide +kernel
theorem d_Model_open_9 : decode b_Model_open 9 = .ok (.if_icmp .gt 26, 3) := by decide +kernel
theorem d_Model_open_12 : decode b_Model_open 12 = .ok (.aload_n 0, 1) := by decide +kernel
theorem d_Model_open_13 : decode b_Model_open 13 = .ok (.getfield 17, 3) := by decide +kernel
theorem d_Model_open_16 : decode b_Model_open 16 = .ok (.iload_n 2, 1) := by decide +kernel
theorem d_Model_open_17 : decode b_Model_open 17 = .ok (.iaload, 1) := by decide +kernel
theorem d_Model_open_18 : decode b_Model_open 18 = .ok (.ifCond .ne 9, 3) := by decide +kernel
theorem d_Model_open_21 : decode b_Model_open 21 = .ok (.iload_n 1, 1) := by decide +kernel
theorem d_Model_open_22 : decode b_Model_open 22 = .ok (.iconst 1, 1) := by decide +kernel
theorem d_Model_open_23 : decode b_Model_open 23 = .ok (.iadd, 1) := by decide +kernel
theorem d_Model_open_24 : decode b_Model_open 24 = .ok (.goto 4, 3) := by decide +kernel
theorem d_Model_open_27 : decode b_Model_open 27 = .ok (.iload_n 1, 1) := by decide +kernel
theorem d_Model_open_28 : decode b_Model_open 28 = .ok (.istore_n 1, 1) := by decide +kernel
theorem d_Model_open_29 : decode b_Model_open 29 = .ok (.iinc 2 1, 3) := by decide +kernel
theorem d_Model_open_32 : decode b_Model_open 32 = .ok (.goto (-28), 3) := by decide +kernel
theorem d_Model_open_35 : decode b_Model_open 35 = .ok (.iload_n 1, 1) := by decide +kernel
theorem d_Model_open_36 : decode b_Model_open 36 = .ok (.ireturn, 1) := by decide +kernel
theorem d_Model_picture_0 : decode b_Model_picture 0 = .ok (.aload_n 0, 1) := by decide +kernel
theorem d_Model_picture_1 : decode b_Model_picture 1 = .ok (.iconst 0, 1) := by decide +kernel
theorem d_Model_picture_2 : decode b_Model_picture 2 = .ok (.putfield 52, 3) := by decide +kernel
theorem d_Model_picture_5 : decode b_Model_picture 5 = .ok (.aload_n 0, 1) := by decide +kernel
theorem d_Model_picture_6 : decode b_Model_picture 6 = .ok (.lload_n 1, 1) := by decide +kernel
theorem d_Model_picture_7 : decode b_Model_picture 7 = .ok (.invokevirtual 70, 3) := by decide +kernel
theorem d_Model_picture_10 : decode b_Model_picture 10 = .ok (.ifCond .eq 15, 3) := by decide +kernel
theorem d_Model_picture_13 : decode b_Model_picture 13 = .ok (.iload_n 3, 1) := by decide +kernel
theorem d_Model_picture_14 : decode b_Model_picture 14 = .ok (.i2l, 1) := by decide +kernel
theorem d_Model_picture_15 : decode b_Model_picture 15 = .ok (.lconst 0, 1) := by decide +kernel
theorem d_Model_picture_16 : decode b_Model_picture 16 = .ok (.ldc2_w 74, 3) := by decide +kernel
theorem d_Model_picture_19 : decode b_Model_picture 19 = .ok (.invokestatic 58, 3) := by decide +kernel
theorem d_Model_picture_22 : decode b_Model_picture 22 = .ok (.ifCond .ne 6, 3) := by decide +kernel
theorem d_Model_picture_25 : decode b_Model_picture 25 = .ok (.bipush (-102), 2) := by decide +kernel
theorem d_Model_picture_27 : decode b_Model_picture 27 = .ok (.ireturn, 1) := by decide +kernel
theorem d_Model_picture_28 : decode b_Model_picture 28 = .ok (.aload_n 0, 1) := by decide +kernel
theorem d_Model_picture_29 : decode b_Model_picture 29 = .ok (.getfield 55, 3) := by decide +kernel
theorem d_Model_picture_32 : decode b_Model_picture 32 = .ok (.sipush 300, 3) := by decide +kernel
theorem d_Model_picture_35 : decode b_Model_picture 35 = .ok (.if_icmp .ne 6, 3) := by decide +kernel
theorem d_Model_picture_38 : decode b_Model_picture 38 = .ok (.bipush (-104), 2) := by decide +kernel
theorem d_Model_picture_40 : decode b_Model_picture 40 = .ok (.ireturn, 1) := by decide +kernel
theorem d_Model_picture_41 : decode b_Model_picture 41 = .ok (.aload_n 0, 1) := by decide +kernel
theorem d_Model_picture_42 : decode b_Model_picture 42 = .ok (.invokevirtual 76, 3) := by decide +kernel
theorem d_Model_picture_45 : decode b_Model_picture 45 = .ok (.aload_n 0, 1) := by decide +kernel
theorem d_Model_picture_46 : decode b_Model_picture 46 = .ok (.getfield 48, 3) := by decide +kernel
theorem d_Model_picture_49 : decode b_Model_picture 49 = .ok (.if_icmp .ne 5, 3) := by decide +kernel
theorem d_Model_picture_52 : decode b_Model_picture 52 = .ok (.iconst 0, 1) := by decide +kernel
theorem d_Model_picture_53 : decode b_Model_picture 53 = .ok (.ireturn, 1) := by decide +kernel
theorem d_Model_picture_54 : decode b_Model_picture 54 = .ok (.aload_n 0, 1) := by decide +kernel
theorem d_Model_picture_55 : decode b_Model_picture 55 = .ok (.dup, 1) := by decide +kernel
theorem d_Model_picture_56 : decode b_Model_picture 56 = .ok (.getfield 55, 3) := by decide +kernel
theorem d_Model_picture_59 : decode b_Model_picture 59 = .ok (.iconst 1, 1) := by decide +kernel
theorem d_Model_picture_60 : decode b_Model_picture 60 = .ok (.iadd, 1) := by decide +kernel
theorem d_Model_picture_61 : decode b_Model_picture 61 = .ok (.putfield 55, 3) := by decide +kernel
theorem d_Model_picture_64 : decode b_Model_picture 64 = .ok (.aload_n 0, 1) := by decide +kernel
theorem d_Model_picture_65 : decode b_Model_picture 65 = .ok (.getfield 7, 3) := by decide +kernel
theorem d_Model_picture_68 : decode b_Model_picture 68 = .ok (.aload_n 0, 1) := by decide +kernel
theorem d_Model_picture_69 : decode b_Model_picture 69 = .ok (.getfield 55, 3) := by decide +kernel
theorem d_Model_picture_72 : decode b_Model_picture 72 = .ok (.lload_n 1, 1) := by decide +kernel
theorem d_Model_picture_73 : decode b_Model_picture 73 = .ok (.lastore, 1) := by decide +kernel
theorem d_Model_picture_74 : decode b_Model_picture 74 = .ok (.aload_n 0, 1) := by decide +kernel
theorem d_Model_picture_75 : decode b_Model_picture 75 = .ok (.getfield 13, 3) := by decide +kernel
theorem d_Model_picture_78 : decode b_Model_picture 78 = .ok (.aload_n 0, 1) := by decide +kernel
theorem d_Model_picture_79 : decode b_Model_picture 79 = .ok (.getfield 55, 3) := by decide +kernel
theorem d_Model_picture_82 : decode b_Model_picture 82 = .ok (.iload_n 3, 1) := by decide +kernel
theorem d_Model_picture_83 : decode b_Model_picture 83 = .ok (.iastore, 1) := by decide +kernel
theorem d_Model_picture_84 : decode b_Model_picture 84 = .ok (.aload_n 0, 1) := by decide +kernel
theorem d_Model_picture_85 : decode b_Model_picture 85 = .ok (.getfield 55, 3) := by decide +kernel
theorem d_Model_picture_88 : decode b_Model_picture 88 = .ok (.ireturn, 1) := by decide +kernel
theorem d_Model_pass_0 : decode b_Model_pass 0 = .ok (.aload_n 0, 1) := by decide +kernel
theorem d_Model_pass_1 : decode b_Model_pass 1 = .ok (.lload_n 1, 1) := by decide +kernel
theorem d_Model_pass_2 : decode b_Model_pass 2 = .ok (.putfield 64, 3) := by decide +kernel
theorem d_Model_pass_5 : decode b_Model_pass 5 = .ok (.iconst 1, 1) := by decide +kernel
theorem d_Model_pass_6 : decode b_Model_pass 6 = .ok (.istore_n 3, 1) := by decide +kernel
theorem d_Model_pass_7 : decode b_Model_pass 7 = .ok (.iload_n 3, 1) := by decide +kernel
theorem d_Model_pass_8 : decode b_Model_pass 8 = .ok (.aload_n 0, 1) := by decide +kernel
theorem d_Model_pass_9 : decode b_Model_pass 9 = .ok (.getfield 55, 3) := by decide +kernel
theorem d_Model_pass_12 : decode b_Model_pass 12 = .ok (.if_icmp .gt 46, 3) := by decide +kernel
theorem d_Model_pass_15 : decode b_Model_pass 15 = .ok (.aload_n 0, 1) := by decide +kernel
theorem d_Model_pass_16 : decode b_Model_pass 16 = .ok (.getfield 17, 3) := by decide +kernel
theorem d_Model_pass_19 : decode b_Model_pass 19 = .ok (.iload_n 3, 1) := by decide +kernel
theorem d_Model_pass_20 : decode b_Model_pass 20 = .ok (.iaload, 1) := by decide +kernel
theorem d_Model_pass_21 : decode b_Model_pass 21 = .ok (.ifCond .ne 31, 3) := by decide +kernel
theorem d_Model_pass_24 : decode b_Model_pass 24 = .ok (.aload_n 0, 1) := by decide +kernel
theorem d_Model_pass_25 : decode b_Model_pass 25 = .ok (.getfield 7, 3) := by decide +kernel
theorem d_Model_pass_28 : decode b_Model_pass 28 = .ok (.iload_n 3, 1) := by decide +kernel
theorem d_Model_pass_29 : decode b_Model_pass 29 = .ok (.laload, 1) := by decide +kernel
theorem d_Model_pass_30 : decode b_Model_pass 30 = .ok (.lload_n 1, 1) := by decide +kernel
theorem d_Model_pass_31 : decode b_Model_pass 31 = .ok (.lcmp, 1) := by decide +kernel
theorem d_Model_pass_32 : decode b_Model_pass 32 = .ok (.ifCond .ge 20, 3) := by decide +kernel
theorem d_Model_pass_35 : decode b_Model_pass 35 = .ok (.aload_n 0, 1) := by decide +kernel
theorem d_Model_pass_36 : decode b_Model_pass 36 = .ok (.getfield 17, 3) := by decide +kernel
theorem d_Model_pass_39 : decode b_Model_pass 39 = .ok (.iload_n 3, 1) := by decide +kernel
theorem d_Model_pass_40 : decode b_Model_pass 40 = .ok (.iconst 4, 1) := by decide +kernel
theorem d_Model_pass_41 : decode b_Model_pass 41 = .ok (.iastore, 1) := by decide +kernel
theorem d_Model_pass_42 : decode b_Model_pass 42 = .ok (.aload_n 0, 1) := by decide +kernel
theorem d_Model_pass_43 : decode b_Model_pass 43 = .ok (.dup, 1) := by decide +kernel
theorem d_Model_pass_44 : decode b_Model_pass 44 = .ok (.getfield 80, 3) := by decide +kernel
theorem d_Model_pass_47 : decode b_Model_pass 47 = .ok (.iconst 1, 1) := by decide +kernel
theorem d_Model_pass_48 : decode b_Model_pass 48 = .ok (.iadd, 1) := by decide +kernel
theorem d_Model_pass_49 : decode b_Model_pass 49 = .ok (.putfield 80, 3) := by decide +kernel
theorem d_Model_pass_52 : decode b_Model_pass 52 = .ok (.iinc 3 1, 3) := by decide +kernel
theorem d_Model_pass_55 : decode b_Model_pass 55 = .ok (.goto (-48), 3) := by decide +kernel
theorem d_Model_pass_58 : decode b_Model_pass 58 = .ok (.return_, 1) := by decide +kernel
theorem d_Model_held_0 : decode b_Model_held 0 = .ok (.iconst 0, 1) := by decide +kernel
theorem d_Model_held_1 : decode b_Model_held 1 = .ok (.istore_n 2, 1) := by decide +kernel
theorem d_Model_held_2 : decode b_Model_held 2 = .ok (.iconst 1, 1) := by decide +kernel
theorem d_Model_held_3 : decode b_Model_held 3 = .ok (.istore_n 3, 1) := by decide +kernel
theorem d_Model_held_4 : decode b_Model_held 4 = .ok (.iload_n 3, 1) := by decide +kernel
theorem d_Model_held_5 : decode b_Model_held 5 = .ok (.aload_n 0, 1) := by decide +kernel
theorem d_Model_held_6 : decode b_Model_held 6 = .ok (.getfield 55, 3) := by decide +kernel
theorem d_Model_held_9 : decode b_Model_held 9 = .ok (.if_icmp .gt 33, 3) := by decide +kernel
theorem d_Model_held_12 : decode b_Model_held 12 = .ok (.aload_n 0, 1) := by decide +kernel
theorem d_Model_held_13 : decode b_Model_held 13 = .ok (.getfield 29, 3) := by decide +kernel
theorem d_Model_held_16 : decode b_Model_held 16 = .ok (.bipush 20, 2) := by decide +kernel
theorem d_Model_held_18 : decode b_Model_held 18 = .ok (.iload_n 3, 1) := by decide +kernel
theorem d_Model_held_19 : decode b_Model_held 19 = .ok (.imul, 1) := by decide +kernel
theorem d_Model_held_20 : decode b_Model_held 20 = .ok (.iload_n 1, 1) := by decide +kernel
theorem d_Model_held_21 : decode b_Model_held 21 = .ok (.iadd, 1) := by decide +kernel
theorem d_Model_held_22 : decode b_Model_held 22 = .ok (.bipush 20, 2) := by decide +kernel
theorem d_Model_held_24 : decode b_Model_held 24 = .ok (.isub, 1) := by decide +kernel
theorem d_Model_held_25 : decode b_Model_held 25 = .ok (.iaload, 1) := by decide +kernel
theorem d_Model_held_26 : decode b_Model_held 26 = .ok (.iconst 2, 1) := by decide +kernel
theorem d_Model_held_27 : decode b_Model_held 27 = .ok (.if_icmp .ne 7, 3) := by decide +kernel
theorem d_Model_held_30 : decode b_Model_held 30 = .ok (.iload_n 3, 1) := by decide +kernel
theorem d_Model_held_31 : decode b_Model_held 31 = .ok (.goto 4, 3) := by decide +kernel
theorem d_Model_held_34 : decode b_Model_held 34 = .ok (.iload_n 2, 1) := by decide +kernel
theorem d_Model_held_35 : decode b_Model_held 35 = .ok (.istore_n 2, 1) := by decide +kernel
theorem d_Model_held_36 : decode b_Model_held 36 = .ok (.iinc 3 1, 3) := by decide +kernel
theorem d_Model_held_39 : decode b_Model_held 39 = .ok (.goto (-35), 3) := by decide +kernel
theorem d_Model_held_42 : decode b_Model_held 42 = .ok (.iload_n 2, 1) := by decide +kernel
theorem d_Model_held_43 : decode b_Model_held 43 = .ok (.ireturn, 1) := by decide +kernel
theorem d_Model_differ_0 : decode b_Model_differ 0 = .ok (.aload_n 0, 1) := by decide +kernel
theorem d_Model_differ_1 : decode b_Model_differ 1 = .ok (.getfield 23, 3) := by decide +kernel
theorem d_Model_differ_4 : decode b_Model_differ 4 = .ok (.iload_n 1, 1) := by decide +kernel
theorem d_Model_differ_5 : decode b_Model_differ 5 = .ok (.iaload, 1) := by decide +kernel
theorem d_Model_differ_6 : decode b_Model_differ 6 = .ok (.iconst 1, 1) := by decide +kernel
theorem d_Model_differ_7 : decode b_Model_differ 7 = .ok (.if_icmp .le 28, 3) := by decide +kernel
theorem d_Model_differ_10 : decode b_Model_differ 10 = .ok (.aload_n 0, 1) := by decide +kernel
theorem d_Model_differ_11 : decode b_Model_differ 11 = .ok (.getfield 26, 3) := by decide +kernel
theorem d_Model_differ_14 : decode b_Model_differ 14 = .ok (.iconst 3, 1) := by decide +kernel
theorem d_Model_differ_15 : decode b_Model_differ 15 = .ok (.iload_n 1, 1) := by decide +kernel
theorem d_Model_differ_16 : decode b_Model_differ 16 = .ok (.imul, 1) := by decide +kernel
theorem d_Model_differ_17 : decode b_Model_differ 17 = .ok (.iaload, 1) := by decide +kernel
theorem d_Model_differ_18 : decode b_Model_differ 18 = .ok (.aload_n 0, 1) := by decide +kernel
theorem d_Model_differ_19 : decode b_Model_differ 19 = .ok (.getfield 26, 3) := by decide +kernel
theorem d_Model_differ_22 : decode b_Model_differ 22 = .ok (.iconst 3, 1) := by decide +kernel
theorem d_Model_differ_23 : decode b_Model_differ 23 = .ok (.iload_n 1, 1) := by decide +kernel
theorem d_Model_differ_24 : decode b_Model_differ 24 = .ok (.imul, 1) := by decide +kernel
theorem d_Model_differ_25 : decode b_Model_differ 25 = .ok (.iconst 1, 1) := by decide +kernel
theorem d_Model_differ_26 : decode b_Model_differ 26 = .ok (.iadd, 1) := by decide +kernel
theorem d_Model_differ_27 : decode b_Model_differ 27 = .ok (.iaload, 1) := by decide +kernel
theorem d_Model_differ_28 : decode b_Model_differ 28 = .ok (.if_icmp .eq 7, 3) := by decide +kernel
theorem d_Model_differ_31 : decode b_Model_differ 31 = .ok (.iconst 1, 1) := by decide +kernel
theorem d_Model_differ_32 : decode b_Model_differ 32 = .ok (.goto 4, 3) := by decide +kernel
theorem d_Model_differ_35 : decode b_Model_differ 35 = .ok (.iconst 0, 1) := by decide +kernel
theorem d_Model_differ_36 : decode b_Model_differ 36 = .ok (.ireturn, 1) := by decide +kernel
theorem d_Model_isTaken_0 : decode b_Model_isTaken 0 = .ok (.aload_n 0, 1) := by decide +kernel
theorem d_Model_isTaken_1 : decode b_Model_isTaken 1 = .ok (.getfield 23, 3) := by decide +kernel
theorem d_Model_isTaken_4 : decode b_Model_isTaken 4 = .ok (.iload_n 1, 1) := by decide +kernel
theorem d_Model_isTaken_5 : decode b_Model_isTaken 5 = .ok (.iaload, 1) := by decide +kernel
theorem d_Model_isTaken_6 : decode b_Model_isTaken 6 = .ok (.istore_n 2, 1) := by decide +kernel
theorem d_Model_isTaken_7 : decode b_Model_isTaken 7 = .ok (.iconst 0, 1) := by decide +kernel
theorem d_Model_isTaken_8 : decode b_Model_isTaken 8 = .ok (.istore_n 3, 1) := by decide +kernel
theorem d_Model_isTaken_9 : decode b_Model_isTaken 9 = .ok (.iload_n 3, 1) := by decide +kernel
theorem d_Model_isTaken_10 : decode b_Model_isTaken 10 = .ok (.bipush 20, 2) := by decide +kernel
theorem d_Model_isTaken_12 : decode b_Model_isTaken 12 = .ok (.if_icmp .ge 35, 3) := by decide +kernel
theorem d_Model_isTaken_15 : decode b_Model_isTaken 15 = .ok (.aload_n 0, 1) := by decide +kernel
theorem d_Model_isTaken_16 : decode b_Model_isTaken 16 = .ok (.getfield 29, 3) := by decide +kernel
theorem d_Model_isTaken_19 : decode b_Model_isTaken 19 = .ok (.bipush 20, 2) := by decide +kernel
theorem d_Model_isTaken_21 : decode b_Model_isTaken 21 = .ok (.iload_n 1, 1) := by decide +kernel
theorem d_Model_isTaken_22 : decode b_Model_isTaken 22 = .ok (.imul, 1) := by decide +kernel
theorem d_Model_isTaken_23 : decode b_Model_isTaken 23 = .ok (.iload_n 3, 1) := by decide +kernel
theorem d_Model_isTaken_24 : decode b_Model_isTaken 24 = .ok (.iadd, 1) := by decide +kernel
theorem d_Model_isTaken_25 : decode b_Model_isTaken 25 = .ok (.bipush 20, 2) := by decide +kernel
theorem d_Model_isTaken_27 : decode b_Model_isTaken 27 = .ok (.isub, 1) := by decide +kernel
theorem d_Model_isTaken_28 : decode b_Model_isTaken 28 = .ok (.iaload, 1) := by decide +kernel
theorem d_Model_isTaken_29 : decode b_Model_isTaken 29 = .ok (.iconst 2, 1) := by decide +kernel
theorem d_Model_isTaken_30 : decode b_Model_isTaken 30 = .ok (.if_icmp .ne 9, 3) := by decide +kernel
theorem d_Model_isTaken_33 : decode b_Model_isTaken 33 = .ok (.iload_n 2, 1) := by decide +kernel
theorem d_Model_isTaken_34 : decode b_Model_isTaken 34 = .ok (.iconst 1, 1) := by decide +kernel
theorem d_Model_isTaken_35 : decode b_Model_isTaken 35 = .ok (.iadd, 1) := by decide +kernel
theorem d_Model_isTaken_36 : decode b_Model_isTaken 36 = .ok (.goto 4, 3) := by decide +kernel
theorem d_Model_isTaken_39 : decode b_Model_isTaken 39 = .ok (.iload_n 2, 1) := by decide +kernel
theorem d_Model_isTaken_40 : decode b_Model_isTaken 40 = .ok (.istore_n 2, 1) := by decide +kernel
theorem d_Model_isTaken_41 : decode b_Model_isTaken 41 = .ok (.iinc 3 1, 3) := by decide +kernel
theorem d_Model_isTaken_44 : decode b_Model_isTaken 44 = .ok (.goto (-35), 3) := by decide +kernel
theorem d_Model_isTaken_47 : decode b_Model_isTaken 47 = .ok (.iload_n 2, 1) := by decide +kernel
theorem d_Model_isTaken_48 : decode b_Model_isTaken 48 = .ok (.aload_n 0, 1) := by decide +kernel
theorem d_Model_isTaken_49 : decode b_Model_isTaken 49 = .ok (.iload_n 1, 1) := by decide +kernel
theorem d_Model_isTaken_50 : decode b_Model_isTaken 50 = .ok (.invokevirtual 83, 3) := by decide +kernel
theorem d_Model_isTaken_53 : decode b_Model_isTaken 53 = .ok (.ifCond .eq 7, 3) := by decide +kernel
theorem d_Model_isTaken_56 : decode b_Model_isTaken 56 = .ok (.iconst 3, 1) := by decide +kernel
theorem d_Model_isTaken_57 : decode b_Model_isTaken 57 = .ok (.goto 4, 3) := by decide +kernel
theorem d_Model_isTaken_60 : decode b_Model_isTaken 60 = .ok (.iconst 2, 1) := by decide +kernel
theorem d_Model_isTaken_61 : decode b_Model_isTaken 61 = .ok (.if_icmp .lt 7, 3) := by decide +kernel
theorem d_Model_isTaken_64 : decode b_Model_isTaken 64 = .ok (.iconst 1, 1) := by decide +kernel
theorem d_Model_isTaken_65 : decode b_Model_isTaken 65 = .ok (.goto 4, 3) := by decide +kernel
theorem d_Model_isTaken_68 : decode b_Model_isTaken 68 = .ok (.iconst 0, 1) := by decide +kernel
theorem d_Model_isTaken_69 : decode b_Model_isTaken 69 = .ok (.ireturn, 1) := by decide +kernel
theorem d_Model_isFree_0 : decode b_Model_isFree 0 = .ok (.aload_n 0, 1) := by decide +kernel
theorem d_Model_isFree_1 : decode b_Model_isFree 1 = .ok (.getfield 17, 3) := by decide +kernel
theorem d_Model_isFree_4 : decode b_Model_isFree 4 = .ok (.iload_n 1, 1) := by decide +kernel
theorem d_Model_isFree_5 : decode b_Model_isFree 5 = .ok (.iaload, 1) := by decide +kernel
theorem d_Model_isFree_6 : decode b_Model_isFree 6 = .ok (.ifCond .ne 43, 3) := by decide +kernel
theorem d_Model_isFree_9 : decode b_Model_isFree 9 = .ok (.aload_n 0, 1) := by decide +kernel
theorem d_Model_isFree_10 : decode b_Model_isFree 10 = .ok (.iload_n 1, 1) := by decide +kernel
theorem d_Model_isFree_11 : decode b_Model_isFree 11 = .ok (.invokevirtual 87, 3) := by decide +kernel
theorem d_Model_isFree_14 : decode b_Model_isFree 14 = .ok (.ifCond .ne 35, 3) := by decide +kernel
theorem d_Model_isFree_17 : decode b_Model_isFree 17 = .ok (.aload_n 0, 1) := by decide +kernel
theorem d_Model_isFree_18 : decode b_Model_isFree 18 = .ok (.getfield 13, 3) := by decide +kernel
theorem d_Model_isFree_21 : decode b_Model_isFree 21 = .ok (.iload_n 1, 1) := by decide +kernel
theorem d_Model_isFree_22 : decode b_Model_isFree 22 = .ok (.iaload, 1) := by decide +kernel
theorem d_Model_isFree_23 : decode b_Model_isFree 23 = .ok (.aload_n 0, 1) := by decide +kernel
theorem d_Model_isFree_24 : decode b_Model_isFree 24 = .ok (.getfield 45, 3) := by decide +kernel
theorem d_Model_isFree_27 : decode b_Model_isFree 27 = .ok (.iload_n 2, 1) := by decide +kernel
theorem d_Model_isFree_28 : decode b_Model_isFree 28 = .ok (.iaload, 1) := by decide +kernel
theorem d_Model_isFree_29 : decode b_Model_isFree 29 = .ok (.if_icmp .gt 20, 3) := by decide +kernel
theorem d_Model_isFree_32 : decode b_Model_isFree 32 = .ok (.aload_n 0, 1) := by decide +kernel
theorem d_Model_isFree_33 : decode b_Model_isFree 33 = .ok (.getfield 29, 3) := by decide +kernel
theorem d_Model_isFree_36 : decode b_Model_isFree 36 = .ok (.bipush 20, 2) := by decide +kernel
theorem d_Model_isFree_38 : decode b_Model_isFree 38 = .ok (.iload_n 1, 1) := by decide +kernel
theorem d_Model_isFree_39 : decode b_Model_isFree 39 = .ok (.imul, 1) := by decide +kernel
theorem d_Model_isFree_40 : decode b_Model_isFree 40 = .ok (.iload_n 2, 1) := by decide +kernel
theorem d_Model_isFree_41 : decode b_Model_isFree 41 = .ok (.iadd, 1) := by decide +kernel
theorem d_Model_isFree_42 : decode b_Model_isFree 42 = .ok (.bipush 20, 2) := by decide +kernel
theorem d_Model_isFree_44 : decode b_Model_isFree 44 = .ok (.isub, 1) := by decide +kernel
theorem d_Model_isFree_45 : decode b_Model_isFree 45 = .ok (.iaload, 1) := by decide +kernel
theorem d_Model_isFree_46 : decode b_Model_isFree 46 = .ok (.ifCond .eq 5, 3) := by decide +kernel
theorem d_Model_isFree_49 : decode b_Model_isFree 49 = .ok (.iconst 0, 1) := by decide +kernel
theorem d_Model_isFree_50 : decode b_Model_isFree 50 = .ok (.ireturn, 1) := by decide +kernel
theorem d_Model_isFree_51 : decode b_Model_isFree 51 = .ok (.iconst 1, 1) := by decide +kernel
theorem d_Model_isFree_52 : decode b_Model_isFree 52 = .ok (.istore_n 3, 1) := by decide +kernel
theorem d_Model_isFree_53 : decode b_Model_isFree 53 = .ok (.iconst 0, 1) := by decide +kernel
theorem d_Model_isFree_54 : decode b_Model_isFree 54 = .ok (.istore 4, 2) := by decide +kernel
theorem d_Model_isFree_56 : decode b_Model_isFree 56 = .ok (.iload 4, 2) := by decide +kernel
theorem d_Model_isFree_58 : decode b_Model_isFree 58 = .ok (.bipush 20, 2) := by decide +kernel
theorem d_Model_isFree_60 : decode b_Model_isFree 60 = .ok (.if_icmp .ge 58, 3) := by decide +kernel
theorem d_Model_isFree_63 : decode b_Model_isFree 63 = .ok (.bipush 20, 2) := by decide +kernel
theorem d_Model_isFree_65 : decode b_Model_isFree 65 = .ok (.iload_n 1, 1) := by decide +kernel
theorem d_Model_isFree_66 : decode b_Model_isFree 66 = .ok (.imul, 1) := by decide +kernel
theorem d_Model_isFree_67 : decode b_Model_isFree 67 = .ok (.iload 4, 2) := by decide +kernel
theorem d_Model_isFree_69 : decode b_Model_isFree 69 = .ok (.iadd, 1) := by decide +kernel
theorem d_Model_isFree_70 : decode b_Model_isFree 70 = .ok (.bipush 20, 2) := by decide +kernel
theorem d_Model_isFree_72 : decode b_Model_isFree 72 = .ok (.isub, 1) := by decide +kernel
theorem d_Model_isFree_73 : decode b_Model_isFree 73 = .ok (.istore 5, 2) := by decide +kernel
theorem d_Model_isFree_75 : decode b_Model_isFree 75 = .ok (.iload_n 3, 1) := by decide +kernel
theorem d_Model_isFree_76 : decode b_Model_isFree 76 = .ok (.ifCond .eq 34, 3) := by decide +kernel
theorem d_Model_isFree_79 : decode b_Model_isFree 79 = .ok (.aload_n 0, 1) := by decide +kernel
theorem d_Model_isFree_80 : decode b_Model_isFree 80 = .ok (.getfield 29, 3) := by decide +kernel
theorem d_Model_isFree_83 : decode b_Model_isFree 83 = .ok (.iload 5, 2) := by decide +kernel
theorem d_Model_isFree_85 : decode b_Model_isFree 85 = .ok (.iaload, 1) := by decide +kernel
theorem d_Model_isFree_86 : decode b_Model_isFree 86 = .ok (.iconst 1, 1) := by decide +kernel
theorem d_Model_isFree_87 : decode b_Model_isFree 87 = .ok (.if_icmp .le 19, 3) := by decide +kernel
theorem d_Model_isFree_90 : decode b_Model_isFree 90 = .ok (.aload_n 0, 1) := by decide +kernel
theorem d_Model_isFree_91 : decode b_Model_isFree 91 = .ok (.getfield 32, 3) := by decide +kernel
theorem d_Model_isFree_94 : decode b_Model_isFree 94 = .ok (.iload 5, 2) := by decide +kernel
theorem d_Model_isFree_96 : decode b_Model_isFree 96 = .ok (.iaload, 1) := by decide +kernel
theorem d_Model_isFree_97 : decode b_Model_isFree 97 = .ok (.aload_n 0, 1) := by decide +kernel
theorem d_Model_isFree_98 : decode b_Model_isFree 98 = .ok (.getfield 42, 3) := by decide +kernel
theorem d_Model_isFree_101 : decode b_Model_isFree 101 = .ok (.iload_n 2, 1) := by decide +kernel
theorem d_Model_isFree_102 : decode b_Model_isFree 102 = .ok (.iaload, 1) := by decide +kernel
theorem d_Model_isFree_103 : decode b_Model_isFree 103 = .ok (.if_icmp .eq 7, 3) := by decide +kernel
theorem d_Model_isFree_106 : decode b_Model_isFree 106 = .ok (.iconst 1, 1) := by decide +kernel
theorem d_Model_isFree_107 : decode b_Model_isFree 107 = .ok (.goto 4, 3) := by decide +kernel
theorem d_Model_isFree_110 : decode b_Model_isFree 110 = .ok (.iconst 0, 1) := by decide +kernel
theorem d_Model_isFree_111 : decode b_Model_isFree 111 = .ok (.istore_n 3, 1) := by decide +kernel
theorem d_Model_isFree_112 : decode b_Model_isFree 112 = .ok (.iinc 4 1, 3) := by decide +kernel
theorem d_Model_isFree_115 : decode b_Model_isFree 115 = .ok (.goto (-59), 3) := by decide +kernel
theorem d_Model_isFree_118 : decode b_Model_isFree 118 = .ok (.iload_n 3, 1) := by decide +kernel
theorem d_Model_isFree_119 : decode b_Model_isFree 119 = .ok (.ifCond .ne 11, 3) := by decide +kernel
theorem d_Model_isFree_122 : decode b_Model_isFree 122 = .ok (.aload_n 0, 1) := by decide +kernel
theorem d_Model_isFree_123 : decode b_Model_isFree 123 = .ok (.iload_n 1, 1) := by decide +kernel
theorem d_Model_isFree_124 : decode b_Model_isFree 124 = .ok (.invokevirtual 83, 3) := by decide +kernel
theorem d_Model_isFree_127 : decode b_Model_isFree 127 = .ok (.ifCond .eq 7, 3) := by decide +kernel
theorem d_Model_isFree_130 : decode b_Model_isFree 130 = .ok (.iconst 1, 1) := by decide +kernel
theorem d_Model_isFree_131 : decode b_Model_isFree 131 = .ok (.goto 4, 3) := by decide +kernel
theorem d_Model_isFree_134 : decode b_Model_isFree 134 = .ok (.iconst 0, 1) := by decide +kernel
theorem d_Model_isFree_135 : decode b_Model_isFree 135 = .ok (.ireturn, 1) := by decide +kernel
theorem d_Model_give_0 : decode b_Model_give 0 = .ok (.aload_n 0, 1) := by decide +kernel
theorem d_Model_give_1 : decode b_Model_give 1 = .ok (.iconst 0, 1) := by decide +kernel
theorem d_Model_give_2 : decode b_Model_give 2 = .ok (.putfield 52, 3) := by decide +kernel
theorem d_Model_give_5 : decode b_Model_give 5 = .ok (.iload_n 1, 1) := by decide +kernel
theorem d_Model_give_6 : decode b_Model_give 6 = .ok (.invokestatic 90, 3) := by decide +kernel
theorem d_Model_give_9 : decode b_Model_give 9 = .ok (.ifCond .ne 6, 3) := by decide +kernel
theorem d_Model_give_12 : decode b_Model_give 12 = .ok (.bipush (-101), 2) := by decide +kernel
theorem d_Model_give_14 : decode b_Model_give 14 = .ok (.ireturn, 1) := by decide +kernel
theorem d_Model_give_15 : decode b_Model_give 15 = .ok (.aload_n 0, 1) := by decide +kernel
theorem d_Model_give_16 : decode b_Model_give 16 = .ok (.lload_n 2, 1) := by decide +kernel
theorem d_Model_give_17 : decode b_Model_give 17 = .ok (.invokevirtual 70, 3) := by decide +kernel
theorem d_Model_give_20 : decode b_Model_give 20 = .ok (.ifCond .ne 6, 3) := by decide +kernel
theorem d_Model_give_23 : decode b_Model_give 23 = .ok (.bipush (-102), 2) := by decide +kernel
theorem d_Model_give_25 : decode b_Model_give 25 = .ok (.ireturn, 1) := by decide +kernel
theorem d_Model_give_26 : decode b_Model_give 26 = .ok (.aload_n 0, 1) := by decide +kernel
theorem d_Model_give_27 : decode b_Model_give 27 = .ok (.getfield 38, 3) := by decide +kernel
theorem d_Model_give_30 : decode b_Model_give 30 = .ok (.iload_n 1, 1) := by decide +kernel
theorem d_Model_give_31 : decode b_Model_give 31 = .ok (.baload, 1) := by decide +kernel
theorem d_Model_give_32 : decode b_Model_give 32 = .ok (.ifCond .eq 11, 3) := by decide +kernel
theorem d_Model_give_35 : decode b_Model_give 35 = .ok (.aload_n 0, 1) := by decide +kernel
theorem d_Model_give_36 : decode b_Model_give 36 = .ok (.iload_n 1, 1) := by decide +kernel
theorem d_Model_give_37 : decode b_Model_give 37 = .ok (.invokevirtual 93, 3) := by decide +kernel
theorem d_Model_give_40 : decode b_Model_give 40 = .ok (.ifCond .le 6, 3) := by decide +kernel
theorem d_Model_give_43 : decode b_Model_give 43 = .ok (.bipush (-103), 2) := by decide +kernel
theorem d_Model_give_45 : decode b_Model_give 45 = .ok (.ireturn, 1) := by decide +kernel
theorem d_Model_give_46 : decode b_Model_give 46 = .ok (.aload_n 0, 1) := by decide +kernel
theorem d_Model_give_47 : decode b_Model_give 47 = .ok (.lload_n 2, 1) := by decide +kernel
theorem d_Model_give_48 : decode b_Model_give 48 = .ok (.invokevirtual 97, 3) := by decide +kernel
theorem d_Model_give_51 : decode b_Model_give 51 = .ok (.iconst 0, 1) := by decide +kernel
theorem d_Model_give_52 : decode b_Model_give 52 = .ok (.istore 4, 2) := by decide +kernel
theorem d_Model_give_54 : decode b_Model_give 54 = .ok (.aload_n 0, 1) := by decide +kernel
theorem d_Model_give_55 : decode b_Model_give 55 = .ok (.getfield 55, 3) := by decide +kernel
theorem d_Model_give_58 : decode b_Model_give 58 = .ok (.istore 5, 2) := by decide +kernel
theorem d_Model_give_60 : decode b_Model_give 60 = .ok (.iload 5, 2) := by decide +kernel
theorem d_Model_give_62 : decode b_Model_give 62 = .ok (.ifCond .le 51, 3) := by decide +kernel
theorem d_Model_give_65 : decode b_Model_give 65 = .ok (.aload_n 0, 1) := by decide +kernel
theorem d_Model_give_66 : decode b_Model_give 66 = .ok (.iload 5, 2) := by decide +kernel
theorem d_Model_give_68 : decode b_Model_give 68 = .ok (.iload_n 1, 1) := by decide +kernel
theorem d_Model_give_69 : decode b_Model_give 69 = .ok (.invokevirtual 101, 3) := by decide +kernel
theorem d_Model_give_72 : decode b_Model_give 72 = .ok (.ifCond .eq 31, 3) := by decide +kernel
theorem d_Model_give_75 : decode b_Model_give 75 = .ok (.iload 4, 2) := by decide +kernel
theorem d_Model_give_77 : decode b_Model_give 77 = .ok (.ifCond .eq 21, 3) := by decide +kernel
theorem d_Model_give_80 : decode b_Model_give 80 = .ok (.aload_n 0, 1) := by decide +kernel
theorem d_Model_give_81 : decode b_Model_give 81 = .ok (.getfield 7, 3) := by decide +kernel
theorem d_Model_give_84 : decode b_Model_give 84 = .ok (.iload 5, 2) := by decide +kernel
theorem d_Model_give_86 : decode b_Model_give 86 = .ok (.laload, 1) := by decide +kernel
theorem d_Model_give_87 : decode b_Model_give 87 = .ok (.aload_n 0, 1) := by decide +kernel
theorem d_Model_give_88 : decode b_Model_give 88 = .ok (.getfield 7, 3) := by decide +kernel
theorem d_Model_give_91 : decode b_Model_give 91 = .ok (.iload 4, 2) := by decide +kernel
theorem d_Model_give_93 : decode b_Model_give 93 = .ok (.laload, 1) := by decide +kernel
theorem d_Model_give_94 : decode b_Model_give 94 = .ok (.lcmp, 1) := by decide +kernel
theorem d_Model_give_95 : decode b_Model_give 95 = .ok (.ifCond .gt 8, 3) := by decide +kernel
theorem d_Model_give_98 : decode b_Model_give 98 = .ok (.iload 5, 2) := by decide +kernel
theorem d_Model_give_100 : decode b_Model_give 100 = .ok (.goto 5, 3) := by decide +kernel
theorem d_Model_give_103 : decode b_Model_give 103 = .ok (.iload 4, 2) := by decide +kernel
theorem d_Model_give_105 : decode b_Model_give 105 = .ok (.istore 4, 2) := by decide +kernel
theorem d_Model_give_107 : decode b_Model_give 107 = .ok (.iinc 5 (-1), 3) := by decide +kernel
theorem d_Model_give_110 : decode b_Model_give 110 = .ok (.goto (-50), 3) := by decide +kernel
theorem d_Model_give_113 : decode b_Model_give 113 = .ok (.iload 4, 2) := by decide +kernel
theorem d_Model_give_115 : decode b_Model_give 115 = .ok (.ifCond .le 40, 3) := by decide +kernel
theorem d_Model_give_118 : decode b_Model_give 118 = .ok (.aload_n 0, 1) := by decide +kernel
theorem d_Model_give_119 : decode b_Model_give 119 = .ok (.getfield 29, 3) := by decide +kernel
theorem d_Model_give_122 : decode b_Model_give 122 = .ok (.bipush 20, 2) := by decide +kernel
theorem d_Model_give_124 : decode b_Model_give 124 = .ok (.iload 4, 2) := by decide +kernel
theorem d_Model_give_126 : decode b_Model_give 126 = .ok (.imul, 1) := by decide +kernel
theorem d_Model_give_127 : decode b_Model_give 127 = .ok (.iload_n 1, 1) := by decide +kernel
theorem d_Model_give_128 : decode b_Model_give 128 = .ok (.iadd, 1) := by decide +kernel
theorem d_Model_give_129 : decode b_Model_give 129 = .ok (.bipush 20, 2) := by decide +kernel
theorem d_Model_give_131 : decode b_Model_give 131 = .ok (.isub, 1) := by decide +kernel
theorem d_Model_give_132 : decode b_Model_give 132 = .ok (.iconst 2, 1) := by decide +kernel
theorem d_Model_give_133 : decode b_Model_give 133 = .ok (.iastore, 1) := by decide +kernel
theorem d_Model_give_134 : decode b_Model_give 134 = .ok (.aload_n 0, 1) := by decide +kernel
theorem d_Model_give_135 : decode b_Model_give 135 = .ok (.getfield 32, 3) := by decide +kernel
theorem d_Model_give_138 : decode b_Model_give 138 = .ok (.bipush 20, 2) := by decide +kernel
theorem d_Model_give_140 : decode b_Model_give 140 = .ok (.iload 4, 2) := by decide +kernel
theorem d_Model_give_142 : decode b_Model_give 142 = .ok (.imul, 1) := by decide +kernel
theorem d_Model_give_143 : decode b_Model_give 143 = .ok (.iload_n 1, 1) := by decide +kernel
theorem d_Model_give_144 : decode b_Model_give 144 = .ok (.iadd, 1) := by decide +kernel
theorem d_Model_give_145 : decode b_Model_give 145 = .ok (.bipush 20, 2) := by decide +kernel
theorem d_Model_give_147 : decode b_Model_give 147 = .ok (.isub, 1) := by decide +kernel
theorem d_Model_give_148 : decode b_Model_give 148 = .ok (.aload_n 0, 1) := by decide +kernel
theorem d_Model_give_149 : decode b_Model_give 149 = .ok (.getfield 42, 3) := by decide +kernel
theorem d_Model_give_152 : decode b_Model_give 152 = .ok (.iload_n 1, 1) := by decide +kernel
theorem d_Model_give_153 : decode b_Model_give 153 = .ok (.iaload, 1) := by decide +kernel
theorem d_Model_give_154 : decode b_Model_give 154 = .ok (.iastore, 1) := by decide +kernel
theorem d_Model_give_155 : decode b_Model_give 155 = .ok (.iload 4, 2) := by decide +kernel
theorem d_Model_give_157 : decode b_Model_give 157 = .ok (.ireturn, 1) := by decide +kernel
theorem d_Model_stateOf_0 : decode b_Model_stateOf 0 = .ok (.aload_n 0, 1) := by decide +kernel
theorem d_Model_stateOf_1 : decode b_Model_stateOf 1 = .ok (.getfield 17, 3) := by decide +kernel
theorem d_Model_stateOf_4 : decode b_Model_stateOf 4 = .ok (.iload_n 1, 1) := by decide +kernel
theorem d_Model_stateOf_5 : decode b_Model_stateOf 5 = .ok (.iaload, 1) := by decide +kernel
theorem d_Model_stateOf_6 : decode b_Model_stateOf 6 = .ok (.ifCond .eq 12, 3) := by decide +kernel
theorem d_Model_stateOf_9 : decode b_Model_stateOf 9 = .ok (.aload_n 0, 1) := by decide +kernel
theorem d_Model_stateOf_10 : decode b_Model_stateOf 10 = .ok (.getfield 17, 3) := by decide +kernel
theorem d_Model_stateOf_13 : decode b_Model_stateOf 13 = .ok (.iload_n 1, 1) := by decide +kernel
theorem d_Model_stateOf_14 : decode b_Model_stateOf 14 = .ok (.iaload, 1) := by decide +kernel
theorem d_Model_stateOf_15 : decode b_Model_stateOf 15 = .ok (.goto 16, 3) := by decide +kernel
theorem d_Model_stateOf_18 : decode b_Model_stateOf 18 = .ok (.aload_n 0, 1) := by decide +kernel
theorem d_Model_stateOf_19 : decode b_Model_stateOf 19 = .ok (.iload_n 1, 1) := by decide +kernel
theorem d_Model_stateOf_20 : decode b_Model_stateOf 20 = .ok (.invokevirtual 87, 3) := by decide +kernel
theorem d_Model_stateOf_23 : decode b_Model_stateOf 23 = .ok (.ifCond .eq 7, 3) := by decide +kernel
theorem d_Model_stateOf_26 : decode b_Model_stateOf 26 = .ok (.iconst 1, 1) := by decide +kernel
theorem d_Model_stateOf_27 : decode b_Model_stateOf 27 = .ok (.goto 4, 3) := by decide +kernel
theorem d_Model_stateOf_30 : decode b_Model_stateOf 30 = .ok (.iconst 0, 1) := by decide +kernel
theorem d_Model_stateOf_31 : decode b_Model_stateOf 31 = .ok (.ireturn, 1) := by decide +kernel
theorem d_Model_take_0 : decode b_Model_take 0 = .ok (.aload_n 0, 1) := by decide +kernel
theorem d_Model_take_1 : decode b_Model_take 1 = .ok (.getfield 23, 3) := by decide +kernel
theorem d_Model_take_4 : decode b_Model_take 4 = .ok (.iload_n 1, 1) := by decide +kernel
theorem d_Model_take_5 : decode b_Model_take 5 = .ok (.iaload, 1) := by decide +kernel
theorem d_Model_take_6 : decode b_Model_take 6 = .ok (.istore_n 3, 1) := by decide +kernel
theorem d_Model_take_7 : decode b_Model_take 7 = .ok (.iconst 0, 1) := by decide +kernel
theorem d_Model_take_8 : decode b_Model_take 8 = .ok (.istore 4, 2) := by decide +kernel
theorem d_Model_take_10 : decode b_Model_take 10 = .ok (.iconst 0, 1) := by decide +kernel
theorem d_Model_take_11 : decode b_Model_take 11 = .ok (.istore 5, 2) := by decide +kernel
theorem d_Model_take_13 : decode b_Model_take 13 = .ok (.iload 5, 2) := by decide +kernel
theorem d_Model_take_15 : decode b_Model_take 15 = .ok (.iload_n 3, 1) := by decide +kernel
theorem d_Model_take_16 : decode b_Model_take 16 = .ok (.if_icmp .ge 36, 3) := by decide +kernel
theorem d_Model_take_19 : decode b_Model_take 19 = .ok (.iload 4, 2) := by decide +kernel
theorem d_Model_take_21 : decode b_Model_take 21 = .ok (.ifCond .ne 18, 3) := by decide +kernel
theorem d_Model_take_24 : decode b_Model_take 24 = .ok (.aload_n 0, 1) := by decide +kernel
theorem d_Model_take_25 : decode b_Model_take 25 = .ok (.getfield 26, 3) := by decide +kernel
theorem d_Model_take_28 : decode b_Model_take 28 = .ok (.iconst 3, 1) := by decide +kernel
theorem d_Model_take_29 : decode b_Model_take 29 = .ok (.iload_n 1, 1) := by decide +kernel
theorem d_Model_take_30 : decode b_Model_take 30 = .ok (.imul, 1) := by decide +kernel
theorem d_Model_take_31 : decode b_Model_take 31 = .ok (.iload 5, 2) := by decide +kernel
theorem d_Model_take_33 : decode b_Model_take 33 = .ok (.iadd, 1) := by decide +kernel
theorem d_Model_take_34 : decode b_Model_take 34 = .ok (.iaload, 1) := by decide +kernel
theorem d_Model_take_35 : decode b_Model_take 35 = .ok (.iload_n 2, 1) := by decide +kernel
theorem d_Model_take_36 : decode b_Model_take 36 = .ok (.if_icmp .ne 7, 3) := by decide +kernel
theorem d_Model_take_39 : decode b_Model_take 39 = .ok (.iconst 1, 1) := by decide +kernel
theorem d_Model_take_40 : decode b_Model_take 40 = .ok (.goto 4, 3) := by decide +kernel
theorem d_Model_take_43 : decode b_Model_take 43 = .ok (.iconst 0, 1) := by decide +kernel
theorem d_Model_take_44 : decode b_Model_take 44 = .ok (.istore 4, 2) := by decide +kernel
theorem d_Model_take_46 : decode b_Model_take 46 = .ok (.iinc 5 1, 3) := by decide +kernel
theorem d_Model_take_49 : decode b_Model_take 49 = .ok (.goto (-36), 3) := by decide +kernel
theorem d_Model_take_52 : decode b_Model_take 52 = .ok (.aload_n 0, 1) := by decide +kernel
theorem d_Model_take_53 : decode b_Model_take 53 = .ok (.getfield 26, 3) := by decide +kernel
theorem d_Model_take_56 : decode b_Model_take 56 = .ok (.iconst 3, 1) := by decide +kernel
theorem d_Model_take_57 : decode b_Model_take 57 = .ok (.iload_n 1, 1) := by decide +kernel
theorem d_Model_take_58 : decode b_Model_take 58 = .ok (.imul, 1) := by decide +kernel
theorem d_Model_take_59 : decode b_Model_take 59 = .ok (.iload_n 3, 1) := by decide +kernel
theorem d_Model_take_60 : decode b_Model_take 60 = .ok (.iadd, 1) := by decide +kernel
theorem d_Model_take_61 : decode b_Model_take 61 = .ok (.iload_n 2, 1) := by decide +kernel
theorem d_Model_take_62 : decode b_Model_take 62 = .ok (.iastore, 1) := by decide +kernel
theorem d_Model_take_63 : decode b_Model_take 63 = .ok (.aload_n 0, 1) := by decide +kernel
theorem d_Model_take_64 : decode b_Model_take 64 = .ok (.getfield 23, 3) := by decide +kernel
theorem d_Model_take_67 : decode b_Model_take 67 = .ok (.iload_n 1, 1) := by decide +kernel
theorem d_Model_take_68 : decode b_Model_take 68 = .ok (.dup2, 1) := by decide +kernel
theorem d_Model_take_69 : decode b_Model_take 69 = .ok (.iaload, 1) := by decide +kernel
theorem d_Model_take_70 : decode b_Model_take 70 = .ok (.iconst 1, 1) := by decide +kernel
theorem d_Model_take_71 : decode b_Model_take 71 = .ok (.iadd, 1) := by decide +kernel
theorem d_Model_take_72 : decode b_Model_take 72 = .ok (.iastore, 1) := by decide +kernel
theorem d_Model_take_73 : decode b_Model_take 73 = .ok (.iload 4, 2) := by decide +kernel
theorem d_Model_take_75 : decode b_Model_take 75 = .ok (.ifCond .eq 28, 3) := by decide +kernel
theorem d_Model_take_78 : decode b_Model_take 78 = .ok (.aload_n 0, 1) := by decide +kernel
theorem d_Model_take_79 : decode b_Model_take 79 = .ok (.getfield 17, 3) := by decide +kernel
theorem d_Model_take_82 : decode b_Model_take 82 = .ok (.iload_n 1, 1) := by decide +kernel
theorem d_Model_take_83 : decode b_Model_take 83 = .ok (.iload_n 2, 1) := by decide +kernel
theorem d_Model_take_84 : decode b_Model_take 84 = .ok (.ifCond .le 7, 3) := by decide +kernel
theorem d_Model_take_87 : decode b_Model_take 87 = .ok (.iconst 2, 1) := by decide +kernel
theorem d_Model_take_88 : decode b_Model_take 88 = .ok (.goto 4, 3) := by decide +kernel
theorem d_Model_take_91 : decode b_Model_take 91 = .ok (.iconst 3, 1) := by decide +kernel
theorem d_Model_take_92 : decode b_Model_take 92 = .ok (.iastore, 1) := by decide +kernel
theorem d_Model_take_93 : decode b_Model_take 93 = .ok (.aload_n 0, 1) := by decide +kernel
theorem d_Model_take_94 : decode b_Model_take 94 = .ok (.getfield 20, 3) := by decide +kernel
theorem d_Model_take_97 : decode b_Model_take 97 = .ok (.iload_n 1, 1) := by decide +kernel
theorem d_Model_take_98 : decode b_Model_take 98 = .ok (.iload_n 2, 1) := by decide +kernel
theorem d_Model_take_99 : decode b_Model_take 99 = .ok (.iastore, 1) := by decide +kernel
theorem d_Model_take_100 : decode b_Model_take 100 = .ok (.goto 15, 3) := by decide +kernel
theorem d_Model_take_103 : decode b_Model_take 103 = .ok (.iload_n 3, 1) := by decide +kernel
theorem d_Model_take_104 : decode b_Model_take 104 = .ok (.iconst 2, 1) := by decide +kernel
theorem d_Model_take_105 : decode b_Model_take 105 = .ok (.if_icmp .ne 10, 3) := by decide +kernel
theorem d_Model_take_108 : decode b_Model_take 108 = .ok (.aload_n 0, 1) := by decide +kernel
theorem d_Model_take_109 : decode b_Model_take 109 = .ok (.getfield 17, 3) := by decide +kernel
theorem d_Model_take_112 : decode b_Model_take 112 = .ok (.iload_n 1, 1) := by decide +kernel
theorem d_Model_take_113 : decode b_Model_take 113 = .ok (.iconst 3, 1) := by decide +kernel
theorem d_Model_take_114 : decode b_Model_take 114 = .ok (.iastore, 1) := by decide +kernel
theorem d_Model_take_115 : decode b_Model_take 115 = .ok (.return_, 1) := by decide +kernel
theorem d_Model_answer_0 : decode b_Model_answer 0 = .ok (.aload_n 0, 1) := by decide +kernel
theorem d_Model_answer_1 : decode b_Model_answer 1 = .ok (.iconst 0, 1) := by decide +kernel
theorem d_Model_answer_2 : decode b_Model_answer 2 = .ok (.putfield 52, 3) := by decide +kernel
theorem d_Model_answer_5 : decode b_Model_answer 5 = .ok (.iload_n 1, 1) := by decide +kernel
theorem d_Model_answer_6 : decode b_Model_answer 6 = .ok (.invokestatic 90, 3) := by decide +kernel
theorem d_Model_answer_9 : decode b_Model_answer 9 = .ok (.ifCond .eq 11, 3) := by decide +kernel
theorem d_Model_answer_12 : decode b_Model_answer 12 = .ok (.aload_n 0, 1) := by decide +kernel
theorem d_Model_answer_13 : decode b_Model_answer 13 = .ok (.iload_n 2, 1) := by decide +kernel
theorem d_Model_answer_14 : decode b_Model_answer 14 = .ok (.invokevirtual 105, 3) := by decide +kernel
theorem d_Model_answer_17 : decode b_Model_answer 17 = .ok (.ifCond .ne 6, 3) := by decide +kernel
theorem d_Model_answer_20 : decode b_Model_answer 20 = .ok (.bipush (-101), 2) := by decide +kernel
theorem d_Model_answer_22 : decode b_Model_answer 22 = .ok (.ireturn, 1) := by decide +kernel
theorem d_Model_answer_23 : decode b_Model_answer 23 = .ok (.iload_n 3, 1) := by decide +kernel
theorem d_Model_answer_24 : decode b_Model_answer 24 = .ok (.i2l, 1) := by decide +kernel
theorem d_Model_answer_25 : decode b_Model_answer 25 = .ok (.lconst 0, 1) := by decide +kernel
theorem d_Model_answer_26 : decode b_Model_answer 26 = .ok (.ldc2_w 108, 3) := by decide +kernel
theorem d_Model_answer_29 : decode b_Model_answer 29 = .ok (.invokestatic 58, 3) := by decide +kernel
theorem d_Model_answer_32 : decode b_Model_answer 32 = .ok (.ifCond .eq 12, 3) := by decide +kernel
theorem d_Model_answer_35 : decode b_Model_answer 35 = .ok (.aload_n 0, 1) := by decide +kernel
theorem d_Model_answer_36 : decode b_Model_answer 36 = .ok (.lload 4, 2) := by decide +kernel
theorem d_Model_answer_38 : decode b_Model_answer 38 = .ok (.invokevirtual 70, 3) := by decide +kernel
theorem d_Model_answer_41 : decode b_Model_answer 41 = .ok (.ifCond .ne 6, 3) := by decide +kernel
theorem d_Model_answer_44 : decode b_Model_answer 44 = .ok (.bipush (-102), 2) := by decide +kernel
theorem d_Model_answer_46 : decode b_Model_answer 46 = .ok (.ireturn, 1) := by decide +kernel
theorem d_Model_answer_47 : decode b_Model_answer 47 = .ok (.aload_n 0, 1) := by decide +kernel
theorem d_Model_answer_48 : decode b_Model_answer 48 = .ok (.iload_n 1, 1) := by decide +kernel
theorem d_Model_answer_49 : decode b_Model_answer 49 = .ok (.invokevirtual 93, 3) := by decide +kernel
theorem d_Model_answer_52 : decode b_Model_answer 52 = .ok (.iload_n 2, 1) := by decide +kernel
theorem d_Model_answer_53 : decode b_Model_answer 53 = .ok (.if_icmp .eq 6, 3) := by decide +kernel
theorem d_Model_answer_56 : decode b_Model_answer 56 = .ok (.bipush (-103), 2) := by decide +kernel
theorem d_Model_answer_58 : decode b_Model_answer 58 = .ok (.ireturn, 1) := by decide +kernel
theorem d_Model_answer_59 : decode b_Model_answer 59 = .ok (.aload_n 0, 1) := by decide +kernel
theorem d_Model_answer_60 : decode b_Model_answer 60 = .ok (.lload 4, 2) := by decide +kernel
theorem d_Model_answer_62 : decode b_Model_answer 62 = .ok (.invokevirtual 97, 3) := by decide +kernel
theorem d_Model_answer_65 : decode b_Model_answer 65 = .ok (.aload_n 0, 1) := by decide +kernel
theorem d_Model_answer_66 : decode b_Model_answer 66 = .ok (.getfield 29, 3) := by decide +kernel
theorem d_Model_answer_69 : decode b_Model_answer 69 = .ok (.bipush 20, 2) := by decide +kernel
theorem d_Model_answer_71 : decode b_Model_answer 71 = .ok (.iload_n 2, 1) := by decide +kernel
theorem d_Model_answer_72 : decode b_Model_answer 72 = .ok (.imul, 1) := by decide +kernel
theorem d_Model_answer_73 : decode b_Model_answer 73 = .ok (.iload_n 1, 1) := by decide +kernel
theorem d_Model_answer_74 : decode b_Model_answer 74 = .ok (.iadd, 1) := by decide +kernel
theorem d_Model_answer_75 : decode b_Model_answer 75 = .ok (.bipush 20, 2) := by decide +kernel
theorem d_Model_answer_77 : decode b_Model_answer 77 = .ok (.isub, 1) := by decide +kernel
theorem d_Model_answer_78 : decode b_Model_answer 78 = .ok (.iconst 3, 1) := by decide +kernel
theorem d_Model_answer_79 : decode b_Model_answer 79 = .ok (.iastore, 1) := by decide +kernel
theorem d_Model_answer_80 : decode b_Model_answer 80 = .ok (.aload_n 0, 1) := by decide +kernel
theorem d_Model_answer_81 : decode b_Model_answer 81 = .ok (.getfield 35, 3) := by decide +kernel
theorem d_Model_answer_84 : decode b_Model_answer 84 = .ok (.bipush 20, 2) := by decide +kernel
theorem d_Model_answer_86 : decode b_Model_answer 86 = .ok (.iload_n 2, 1) := by decide +kernel
theorem d_Model_answer_87 : decode b_Model_answer 87 = .ok (.imul, 1) := by decide +kernel
theorem d_Model_answer_88 : decode b_Model_answer 88 = .ok (.iload_n 1, 1) := by decide +kernel
theorem d_Model_answer_89 : decode b_Model_answer 89 = .ok (.iadd, 1) := by decide +kernel
theorem d_Model_answer_90 : decode b_Model_answer 90 = .ok (.bipush 20, 2) := by decide +kernel
theorem d_Model_answer_92 : decode b_Model_answer 92 = .ok (.isub, 1) := by decide +kernel
theorem d_Model_answer_93 : decode b_Model_answer 93 = .ok (.iload_n 3, 1) := by decide +kernel
theorem d_Model_answer_94 : decode b_Model_answer 94 = .ok (.iastore, 1) := by decide +kernel
theorem d_Model_answer_95 : decode b_Model_answer 95 = .ok (.aload_n 0, 1) := by decide +kernel
theorem d_Model_answer_96 : decode b_Model_answer 96 = .ok (.getfield 17, 3) := by decide +kernel
theorem d_Model_answer_99 : decode b_Model_answer 99 = .ok (.iload_n 2, 1) := by decide +kernel
theorem d_Model_answer_100 : decode b_Model_answer 100 = .ok (.iaload, 1) := by decide +kernel
theorem d_Model_answer_101 : decode b_Model_answer 101 = .ok (.ifCond .ne 9, 3) := by decide +kernel
theorem d_Model_answer_104 : decode b_Model_answer 104 = .ok (.aload_n 0, 1) := by decide +kernel
theorem d_Model_answer_105 : decode b_Model_answer 105 = .ok (.iload_n 2, 1) := by decide +kernel
theorem d_Model_answer_106 : decode b_Model_answer 106 = .ok (.iload_n 3, 1) := by decide +kernel
theorem d_Model_answer_107 : decode b_Model_answer 107 = .ok (.invokevirtual 110, 3) := by decide +kernel
theorem d_Model_answer_110 : decode b_Model_answer 110 = .ok (.aload_n 0, 1) := by decide +kernel
theorem d_Model_answer_111 : decode b_Model_answer 111 = .ok (.iload_n 2, 1) := by decide +kernel
theorem d_Model_answer_112 : decode b_Model_answer 112 = .ok (.invokevirtual 114, 3) := by decide +kernel
theorem d_Model_answer_115 : decode b_Model_answer 115 = .ok (.ireturn, 1) := by decide +kernel
theorem d_Model_office_0 : decode b_Model_office 0 = .ok (.aload_n 0, 1) := by decide +kernel
theorem d_Model_office_1 : decode b_Model_office 1 = .ok (.iconst 0, 1) := by decide +kernel
theorem d_Model_office_2 : decode b_Model_office 2 = .ok (.putfield 52, 3) := by decide +kernel
theorem d_Model_office_5 : decode b_Model_office 5 = .ok (.iload_n 1, 1) := by decide +kernel
theorem d_Model_office_6 : decode b_Model_office 6 = .ok (.invokestatic 90, 3) := by decide +kernel
theorem d_Model_office_9 : decode b_Model_office 9 = .ok (.ifCond .ne 6, 3) := by decide +kernel
theorem d_Model_office_12 : decode b_Model_office 12 = .ok (.bipush (-101), 2) := by decide +kernel
theorem d_Model_office_14 : decode b_Model_office 14 = .ok (.ireturn, 1) := by decide +kernel
theorem d_Model_office_15 : decode b_Model_office 15 = .ok (.iload_n 2, 1) := by decide +kernel
theorem d_Model_office_16 : decode b_Model_office 16 = .ok (.i2l, 1) := by decide +kernel
theorem d_Model_office_17 : decode b_Model_office 17 = .ok (.lconst 0, 1) := by decide +kernel
theorem d_Model_office_18 : decode b_Model_office 18 = .ok (.ldc2_w 117, 3) := by decide +kernel
theorem d_Model_office_21 : decode b_Model_office 21 = .ok (.invokestatic 58, 3) := by decide +kernel
theorem d_Model_office_24 : decode b_Model_office 24 = .ok (.ifCond .eq 15, 3) := by decide +kernel
theorem d_Model_office_27 : decode b_Model_office 27 = .ok (.iload_n 3, 1) := by decide +kernel
theorem d_Model_office_28 : decode b_Model_office 28 = .ok (.i2l, 1) := by decide +kernel
theorem d_Model_office_29 : decode b_Model_office 29 = .ok (.lconst 0, 1) := by decide +kernel
theorem d_Model_office_30 : decode b_Model_office 30 = .ok (.ldc2_w 74, 3) := by decide +kernel
theorem d_Model_office_33 : decode b_Model_office 33 = .ok (.invokestatic 58, 3) := by decide +kernel
theorem d_Model_office_36 : decode b_Model_office 36 = .ok (.ifCond .ne 6, 3) := by decide +kernel
theorem d_Model_office_39 : decode b_Model_office 39 = .ok (.bipush (-102), 2) := by decide +kernel
theorem d_Model_office_41 : decode b_Model_office 41 = .ok (.ireturn, 1) := by decide +kernel
theorem d_Model_office_42 : decode b_Model_office 42 = .ok (.aload_n 0, 1) := by decide +kernel
theorem d_Model_office_43 : decode b_Model_office 43 = .ok (.getfield 38, 3) := by decide +kernel
theorem d_Model_office_46 : decode b_Model_office 46 = .ok (.iload_n 1, 1) := by decide +kernel
theorem d_Model_office_47 : decode b_Model_office 47 = .ok (.baload, 1) := by decide +kernel
theorem d_Model_office_48 : decode b_Model_office 48 = .ok (.ifCond .eq 27, 3) := by decide +kernel
theorem d_Model_office_51 : decode b_Model_office 51 = .ok (.aload_n 0, 1) := by decide +kernel
theorem d_Model_office_52 : decode b_Model_office 52 = .ok (.getfield 42, 3) := by decide +kernel
theorem d_Model_office_55 : decode b_Model_office 55 = .ok (.iload_n 1, 1) := by decide +kernel
theorem d_Model_office_56 : decode b_Model_office 56 = .ok (.iaload, 1) := by decide +kernel
theorem d_Model_office_57 : decode b_Model_office 57 = .ok (.iload_n 2, 1) := by decide +kernel
theorem d_Model_office_58 : decode b_Model_office 58 = .ok (.if_icmp .ne 17, 3) := by decide +kernel
theorem d_Model_office_61 : decode b_Model_office 61 = .ok (.aload_n 0, 1) := by decide +kernel
theorem d_Model_office_62 : decode b_Model_office 62 = .ok (.getfield 45, 3) := by decide +kernel
theorem d_Model_office_65 : decode b_Model_office 65 = .ok (.iload_n 1, 1) := by decide +kernel
theorem d_Model_office_66 : decode b_Model_office 66 = .ok (.iaload, 1) := by decide +kernel
theorem d_Model_office_67 : decode b_Model_office 67 = .ok (.iload_n 3, 1) := by decide +kernel
theorem d_Model_office_68 : decode b_Model_office 68 = .ok (.if_icmp .ne 7, 3) := by decide +kernel
theorem d_Model_office_71 : decode b_Model_office 71 = .ok (.iconst 1, 1) := by decide +kernel
theorem d_Model_office_72 : decode b_Model_office 72 = .ok (.goto 4, 3) := by decide +kernel
theorem d_Model_office_75 : decode b_Model_office 75 = .ok (.iconst 0, 1) := by decide +kernel
theorem d_Model_office_76 : decode b_Model_office 76 = .ok (.istore 4, 2) := by decide +kernel
theorem d_Model_office_78 : decode b_Model_office 78 = .ok (.aload_n 0, 1) := by decide +kernel
theorem d_Model_office_79 : decode b_Model_office 79 = .ok (.getfield 38, 3) := by decide +kernel
theorem d_Model_office_82 : decode b_Model_office 82 = .ok (.iload_n 1, 1) := by decide +kernel
theorem d_Model_office_83 : decode b_Model_office 83 = .ok (.iconst 1, 1) := by decide +kernel
theorem d_Model_office_84 : decode b_Model_office 84 = .ok (.bastore, 1) := by decide +kernel
theorem d_Model_office_85 : decode b_Model_office 85 = .ok (.aload_n 0, 1) := by decide +kernel
theorem d_Model_office_86 : decode b_Model_office 86 = .ok (.getfield 42, 3) := by decide +kernel
theorem d_Model_office_89 : decode b_Model_office 89 = .ok (.iload_n 1, 1) := by decide +kernel
theorem d_Model_office_90 : decode b_Model_office 90 = .ok (.iload_n 2, 1) := by decide +kernel
theorem d_Model_office_91 : decode b_Model_office 91 = .ok (.iastore, 1) := by decide +kernel
theorem d_Model_office_92 : decode b_Model_office 92 = .ok (.aload_n 0, 1) := by decide +kernel
theorem d_Model_office_93 : decode b_Model_office 93 = .ok (.getfield 45, 3) := by decide +kernel
theorem d_Model_office_96 : decode b_Model_office 96 = .ok (.iload_n 1, 1) := by decide +kernel
theorem d_Model_office_97 : decode b_Model_office 97 = .ok (.iload_n 3, 1) := by decide +kernel
theorem d_Model_office_98 : decode b_Model_office 98 = .ok (.iastore, 1) := by decide +kernel
theorem d_Model_office_99 : decode b_Model_office 99 = .ok (.iload 4, 2) := by decide +kernel
theorem d_Model_office_101 : decode b_Model_office 101 = .ok (.ifCond .eq 7, 3) := by decide +kernel
theorem d_Model_office_104 : decode b_Model_office 104 = .ok (.iconst 0, 1) := by decide +kernel
theorem d_Model_office_105 : decode b_Model_office 105 = .ok (.goto 4, 3) := by decide +kernel
theorem d_Model_office_108 : decode b_Model_office 108 = .ok (.iconst 1, 1) := by decide +kernel
theorem d_Model_office_109 : decode b_Model_office 109 = .ok (.ireturn, 1) := by decide +kernel
theorem d_Model_leave_0 : decode b_Model_leave 0 = .ok (.aload_n 0, 1) := by decide +kernel
theorem d_Model_leave_1 : decode b_Model_leave 1 = .ok (.iconst 0, 1) := by decide +kernel
theorem d_Model_leave_2 : decode b_Model_leave 2 = .ok (.putfield 52, 3) := by decide +kernel
theorem d_Model_leave_5 : decode b_Model_leave 5 = .ok (.iload_n 1, 1) := by decide +kernel
theorem d_Model_leave_6 : decode b_Model_leave 6 = .ok (.invokestatic 90, 3) := by decide +kernel
theorem d_Model_leave_9 : decode b_Model_leave 9 = .ok (.ifCond .ne 6, 3) := by decide +kernel
theorem d_Model_leave_12 : decode b_Model_leave 12 = .ok (.bipush (-101), 2) := by decide +kernel
theorem d_Model_leave_14 : decode b_Model_leave 14 = .ok (.ireturn, 1) := by decide +kernel
theorem d_Model_leave_15 : decode b_Model_leave 15 = .ok (.aload_n 0, 1) := by decide +kernel
theorem d_Model_leave_16 : decode b_Model_leave 16 = .ok (.getfield 38, 3) := by decide +kernel
theorem d_Model_leave_19 : decode b_Model_leave 19 = .ok (.iload_n 1, 1) := by decide +kernel
theorem d_Model_leave_20 : decode b_Model_leave 20 = .ok (.baload, 1) := by decide +kernel
theorem d_Model_leave_21 : decode b_Model_leave 21 = .ok (.ifCond .ne 6, 3) := by decide +kernel
theorem d_Model_leave_24 : decode b_Model_leave 24 = .ok (.bipush (-103), 2) := by decide +kernel
theorem d_Model_leave_26 : decode b_Model_leave 26 = .ok (.ireturn, 1) := by decide +kernel
theorem d_Model_leave_27 : decode b_Model_leave 27 = .ok (.aload_n 0, 1) := by decide +kernel
theorem d_Model_leave_28 : decode b_Model_leave 28 = .ok (.getfield 38, 3) := by decide +kernel
theorem d_Model_leave_31 : decode b_Model_leave 31 = .ok (.iload_n 1, 1) := by decide +kernel
theorem d_Model_leave_32 : decode b_Model_leave 32 = .ok (.iconst 0, 1) := by decide +kernel
theorem d_Model_leave_33 : decode b_Model_leave 33 = .ok (.bastore, 1) := by decide +kernel
theorem d_Model_leave_34 : decode b_Model_leave 34 = .ok (.aload_n 0, 1) := by decide +kernel
theorem d_Model_leave_35 : decode b_Model_leave 35 = .ok (.iload_n 1, 1) := by decide +kernel
theorem d_Model_leave_36 : decode b_Model_leave 36 = .ok (.invokevirtual 93, 3) := by decide +kernel
theorem d_Model_leave_39 : decode b_Model_leave 39 = .ok (.istore_n 2, 1) := by decide +kernel
theorem d_Model_leave_40 : decode b_Model_leave 40 = .ok (.iload_n 2, 1) := by decide +kernel
theorem d_Model_leave_41 : decode b_Model_leave 41 = .ok (.ifCond .le 18, 3) := by decide +kernel
theorem d_Model_leave_44 : decode b_Model_leave 44 = .ok (.aload_n 0, 1) := by decide +kernel
theorem d_Model_leave_45 : decode b_Model_leave 45 = .ok (.getfield 29, 3) := by decide +kernel
theorem d_Model_leave_48 : decode b_Model_leave 48 = .ok (.bipush 20, 2) := by decide +kernel
theorem d_Model_leave_50 : decode b_Model_leave 50 = .ok (.iload_n 2, 1) := by decide +kernel
theorem d_Model_leave_51 : decode b_Model_leave 51 = .ok (.imul, 1) := by decide +kernel
theorem d_Model_leave_52 : decode b_Model_leave 52 = .ok (.iload_n 1, 1) := by decide +kernel
theorem d_Model_leave_53 : decode b_Model_leave 53 = .ok (.iadd, 1) := by decide +kernel
theorem d_Model_leave_54 : decode b_Model_leave 54 = .ok (.bipush 20, 2) := by decide +kernel
theorem d_Model_leave_56 : decode b_Model_leave 56 = .ok (.isub, 1) := by decide +kernel
theorem d_Model_leave_57 : decode b_Model_leave 57 = .ok (.iconst 1, 1) := by decide +kernel
theorem d_Model_leave_58 : decode b_Model_leave 58 = .ok (.iastore, 1) := by decide +kernel
theorem d_Model_leave_59 : decode b_Model_leave 59 = .ok (.iload_n 2, 1) := by decide +kernel
theorem d_Model_leave_60 : decode b_Model_leave 60 = .ok (.ifCond .le 7, 3) := by decide +kernel
theorem d_Model_leave_63 : decode b_Model_leave 63 = .ok (.iconst 1, 1) := by decide +kernel
theorem d_Model_leave_64 : decode b_Model_leave 64 = .ok (.goto 4, 3) := by decide +kernel
theorem d_Model_leave_67 : decode b_Model_leave 67 = .ok (.iconst 0, 1) := by decide +kernel
theorem d_Model_leave_68 : decode b_Model_leave 68 = .ok (.ireturn, 1) := by decide +kernel
theorem d_Model_tick_0 : decode b_Model_tick 0 = .ok (.aload_n 0, 1) := by decide +kernel
theorem d_Model_tick_1 : decode b_Model_tick 1 = .ok (.iconst 0, 1) := by decide +kernel
theorem d_Model_tick_2 : decode b_Model_tick 2 = .ok (.putfield 52, 3) := by decide +kernel
theorem d_Model_tick_5 : decode b_Model_tick 5 = .ok (.aload_n 0, 1) := by decide +kernel
theorem d_Model_tick_6 : decode b_Model_tick 6 = .ok (.lload_n 1, 1) := by decide +kernel
theorem d_Model_tick_7 : decode b_Model_tick 7 = .ok (.invokevirtual 70, 3) := by decide +kernel
theorem d_Model_tick_10 : decode b_Model_tick 10 = .ok (.ifCond .ne 6, 3) := by decide +kernel
theorem d_Model_tick_13 : decode b_Model_tick 13 = .ok (.bipush (-102), 2) := by decide +kernel
theorem d_Model_tick_15 : decode b_Model_tick 15 = .ok (.ireturn, 1) := by decide +kernel
theorem d_Model_tick_16 : decode b_Model_tick 16 = .ok (.aload_n 0, 1) := by decide +kernel
theorem d_Model_tick_17 : decode b_Model_tick 17 = .ok (.lload_n 1, 1) := by decide +kernel
theorem d_Model_tick_18 : decode b_Model_tick 18 = .ok (.invokevirtual 97, 3) := by decide +kernel
theorem d_Model_tick_21 : decode b_Model_tick 21 = .ok (.aload_n 0, 1) := by decide +kernel
theorem d_Model_tick_22 : decode b_Model_tick 22 = .ok (.getfield 80, 3) := by decide +kernel
theorem d_Model_tick_25 : decode b_Model_tick 25 = .ok (.istore_n 3, 1) := by decide +kernel
theorem d_Model_tick_26 : decode b_Model_tick 26 = .ok (.aload_n 0, 1) := by decide +kernel
theorem d_Model_tick_27 : decode b_Model_tick 27 = .ok (.iconst 0, 1) := by decide +kernel
theorem d_Model_tick_28 : decode b_Model_tick 28 = .ok (.putfield 80, 3) := by decide +kernel
theorem d_Model_tick_31 : decode b_Model_tick 31 = .ok (.iload_n 3, 1) := by decide +kernel
theorem d_Model_tick_32 : decode b_Model_tick 32 = .ok (.ireturn, 1) := by decide +kernel
theorem d_Model_settled_0 : decode b_Model_settled 0 = .ok (.aload_n 0, 1) := by decide +kernel
theorem d_Model_settled_1 : decode b_Model_settled 1 = .ok (.iconst 0, 1) := by decide +kernel
theorem d_Model_settled_2 : decode b_Model_settled 2 = .ok (.putfield 52, 3) := by decide +kernel
theorem d_Model_settled_5 : decode b_Model_settled 5 = .ok (.aload_n 0, 1) := by decide +kernel
theorem d_Model_settled_6 : decode b_Model_settled 6 = .ok (.iload_n 1, 1) := by decide +kernel
theorem d_Model_settled_7 : decode b_Model_settled 7 = .ok (.invokevirtual 105, 3) := by decide +kernel
theorem d_Model_settled_10 : decode b_Model_settled 10 = .ok (.ifCond .ne 8, 3) := by decide +kernel
theorem d_Model_settled_13 : decode b_Model_settled 13 = .ok (.bipush (-101), 2) := by decide +kernel
theorem d_Model_settled_15 : decode b_Model_settled 15 = .ok (.goto 22, 3) := by decide +kernel
theorem d_Model_settled_18 : decode b_Model_settled 18 = .ok (.aload_n 0, 1) := by decide +kernel
theorem d_Model_settled_19 : decode b_Model_settled 19 = .ok (.getfield 17, 3) := by decide +kernel
theorem d_Model_settled_22 : decode b_Model_settled 22 = .ok (.iload_n 1, 1) := by decide +kernel
theorem d_Model_settled_23 : decode b_Model_settled 23 = .ok (.iaload, 1) := by decide +kernel
theorem d_Model_settled_24 : decode b_Model_settled 24 = .ok (.ifCond .ne 7, 3) := by decide +kernel
theorem d_Model_settled_27 : decode b_Model_settled 27 = .ok (.iconst (-1), 1) := by decide +kernel
theorem d_Model_settled_28 : decode b_Model_settled 28 = .ok (.goto 9, 3) := by decide +kernel
theorem d_Model_settled_31 : decode b_Model_settled 31 = .ok (.aload_n 0, 1) := by decide +kernel
theorem d_Model_settled_32 : decode b_Model_settled 32 = .ok (.getfield 20, 3) := by decide +kernel
theorem d_Model_settled_35 : decode b_Model_settled 35 = .ok (.iload_n 1, 1) := by decide +kernel
theorem d_Model_settled_36 : decode b_Model_settled 36 = .ok (.iaload, 1) := by decide +kernel
theorem d_Model_settled_37 : decode b_Model_settled 37 = .ok (.ireturn, 1) := by decide +kernel
theorem d_Model_state_0 : decode b_Model_state 0 = .ok (.aload_n 0, 1) := by decide +kernel
theorem d_Model_state_1 : decode b_Model_state 1 = .ok (.iconst 0, 1) := by decide +kernel
theorem d_Model_state_2 : decode b_Model_state 2 = .ok (.putfield 52, 3) := by decide +kernel
theorem d_Model_state_5 : decode b_Model_state 5 = .ok (.aload_n 0, 1) := by decide +kernel
theorem d_Model_state_6 : decode b_Model_state 6 = .ok (.iload_n 1, 1) := by decide +kernel
theorem d_Model_state_7 : decode b_Model_state 7 = .ok (.invokevirtual 105, 3) := by decide +kernel
theorem d_Model_state_10 : decode b_Model_state 10 = .ok (.ifCond .eq 11, 3) := by decide +kernel
theorem d_Model_state_13 : decode b_Model_state 13 = .ok (.aload_n 0, 1) := by decide +kernel
theorem d_Model_state_14 : decode b_Model_state 14 = .ok (.iload_n 1, 1) := by decide +kernel
theorem d_Model_state_15 : decode b_Model_state 15 = .ok (.invokevirtual 114, 3) := by decide +kernel
theorem d_Model_state_18 : decode b_Model_state 18 = .ok (.goto 5, 3) := by decide +kernel
theorem d_Model_state_21 : decode b_Model_state 21 = .ok (.bipush (-101), 2) := by decide +kernel
theorem d_Model_state_23 : decode b_Model_state 23 = .ok (.ireturn, 1) := by decide +kernel
theorem d_Model_agreement_0 : decode b_Model_agreement 0 = .ok (.aload_n 0, 1) := by decide +kernel
theorem d_Model_agreement_1 : decode b_Model_agreement 1 = .ok (.iconst 0, 1) := by decide +kernel
theorem d_Model_agreement_2 : decode b_Model_agreement 2 = .ok (.putfield 52, 3) := by decide +kernel
theorem d_Model_agreement_5 : decode b_Model_agreement 5 = .ok (.iload_n 1, 1) := by decide +kernel
theorem d_Model_agreement_6 : decode b_Model_agreement 6 = .ok (.invokestatic 90, 3) := by decide +kernel
theorem d_Model_agreement_9 : decode b_Model_agreement 9 = .ok (.ifCond .eq 10, 3) := by decide +kernel
theorem d_Model_agreement_12 : decode b_Model_agreement 12 = .ok (.iload_n 2, 1) := by decide +kernel
theorem d_Model_agreement_13 : decode b_Model_agreement 13 = .ok (.invokestatic 90, 3) := by decide +kernel
theorem d_Model_agreement_16 : decode b_Model_agreement 16 = .ok (.ifCond .ne 7, 3) := by decide +kernel
theorem d_Model_agreement_19 : decode b_Model_agreement 19 = .ok (.ldc2_w 119, 3) := by decide +kernel
theorem d_Model_agreement_22 : decode b_Model_agreement 22 = .ok (.lreturn, 1) := by decide +kernel
theorem d_Model_agreement_23 : decode b_Model_agreement 23 = .ok (.iload_n 3, 1) := by decide +kernel
theorem d_Model_agreement_24 : decode b_Model_agreement 24 = .ok (.ifCond .lt 13, 3) := by decide +kernel
theorem d_Model_agreement_27 : decode b_Model_agreement 27 = .ok (.iload_n 3, 1) := by decide +kernel
theorem d_Model_agreement_28 : decode b_Model_agreement 28 = .ok (.iconst 1, 1) := by decide +kernel
theorem d_Model_agreement_29 : decode b_Model_agreement 29 = .ok (.if_icmp .gt 8, 3) := by decide +kernel
theorem d_Model_agreement_32 : decode b_Model_agreement 32 = .ok (.iload_n 1, 1) := by decide +kernel
theorem d_Model_agreement_33 : decode b_Model_agreement 33 = .ok (.iload_n 2, 1) := by decide +kernel
theorem d_Model_agreement_34 : decode b_Model_agreement 34 = .ok (.if_icmp .ne 7, 3) := by decide +kernel
theorem d_Model_agreement_37 : decode b_Model_agreement 37 = .ok (.ldc2_w 121, 3) := by decide +kernel
theorem d_Model_agreement_40 : decode b_Model_agreement 40 = .ok (.lreturn, 1) := by decide +kernel
theorem d_Model_agreement_41 : decode b_Model_agreement 41 = .ok (.iconst 0, 1) := by decide +kernel
theorem d_Model_agreement_42 : decode b_Model_agreement 42 = .ok (.istore 4, 2) := by decide +kernel
theorem d_Model_agreement_44 : decode b_Model_agreement 44 = .ok (.iconst 1, 1) := by decide +kernel
theorem d_Model_agreement_45 : decode b_Model_agreement 45 = .ok (.istore 5, 2) := by decide +kernel
theorem d_Model_agreement_47 : decode b_Model_agreement 47 = .ok (.iload 5, 2) := by decide +kernel
theorem d_Model_agreement_49 : decode b_Model_agreement 49 = .ok (.aload_n 0, 1) := by decide +kernel
theorem d_Model_agreement_50 : decode b_Model_agreement 50 = .ok (.getfield 55, 3) := by decide +kernel
theorem d_Model_agreement_53 : decode b_Model_agreement 53 = .ok (.if_icmp .gt 76, 3) := by decide +kernel
theorem d_Model_agreement_56 : decode b_Model_agreement 56 = .ok (.aload_n 0, 1) := by decide +kernel
theorem d_Model_agreement_57 : decode b_Model_agreement 57 = .ok (.getfield 35, 3) := by decide +kernel
theorem d_Model_agreement_60 : decode b_Model_agreement 60 = .ok (.bipush 20, 2) := by decide +kernel
theorem d_Model_agreement_62 : decode b_Model_agreement 62 = .ok (.iload 5, 2) := by decide +kernel
theorem d_Model_agreement_64 : decode b_Model_agreement 64 = .ok (.imul, 1) := by decide +kernel
theorem d_Model_agreement_65 : decode b_Model_agreement 65 = .ok (.iload_n 1, 1) := by decide +kernel
theorem d_Model_agreement_66 : decode b_Model_agreement 66 = .ok (.iadd, 1) := by decide +kernel
theorem d_Model_agreement_67 : decode b_Model_agreement 67 = .ok (.bipush 20, 2) := by decide +kernel
theorem d_Model_agreement_69 : decode b_Model_agreement 69 = .ok (.isub, 1) := by decide +kernel
theorem d_Model_agreement_70 : decode b_Model_agreement 70 = .ok (.iaload, 1) := by decide +kernel
theorem d_Model_agreement_71 : decode b_Model_agreement 71 = .ok (.istore 6, 2) := by decide +kernel
theorem d_Model_agreement_73 : decode b_Model_agreement 73 = .ok (.aload_n 0, 1) := by decide +kernel
theorem d_Model_agreement_74 : decode b_Model_agreement 74 = .ok (.getfield 35, 3) := by decide +kernel
theorem d_Model_agreement_77 : decode b_Model_agreement 77 = .ok (.bipush 20, 2) := by decide +kernel
theorem d_Model_agreement_79 : decode b_Model_agreement 79 = .ok (.iload 5, 2) := by decide +kernel
theorem d_Model_agreement_81 : decode b_Model_agreement 81 = .ok (.imul, 1) := by decide +kernel
theorem d_Model_agreement_82 : decode b_Model_agreement 82 = .ok (.iload_n 2, 1) := by decide +kernel
theorem d_Model_agreement_83 : decode b_Model_agreement 83 = .ok (.iadd, 1) := by decide +kernel
theorem d_Model_agreement_84 : decode b_Model_agreement 84 = .ok (.bipush 20, 2) := by decide +kernel
theorem d_Model_agreement_86 : decode b_Model_agreement 86 = .ok (.isub, 1) := by decide +kernel
theorem d_Model_agreement_87 : decode b_Model_agreement 87 = .ok (.iaload, 1) := by decide +kernel
theorem d_Model_agreement_88 : decode b_Model_agreement 88 = .ok (.istore 7, 2) := by decide +kernel
theorem d_Model_agreement_90 : decode b_Model_agreement 90 = .ok (.iload 6, 2) := by decide +kernel
theorem d_Model_agreement_92 : decode b_Model_agreement 92 = .ok (.ifCond .lt 27, 3) := by decide +kernel
theorem d_Model_agreement_95 : decode b_Model_agreement 95 = .ok (.iload 7, 2) := by decide +kernel
theorem d_Model_agreement_97 : decode b_Model_agreement 97 = .ok (.ifCond .lt 22, 3) := by decide +kernel
theorem d_Model_agreement_100 : decode b_Model_agreement 100 = .ok (.iload_n 3, 1) := by decide +kernel
theorem d_Model_agreement_101 : decode b_Model_agreement 101 = .ok (.iconst 1, 1) := by decide +kernel
theorem d_Model_agreement_102 : decode b_Model_agreement 102 = .ok (.if_icmp .eq 10, 3) := by decide +kernel
theorem d_Model_agreement_105 : decode b_Model_agreement 105 = .ok (.iload 6, 2) := by decide +kernel
theorem d_Model_agreement_107 : decode b_Model_agreement 107 = .ok (.iload 7, 2) := by decide +kernel
theorem d_Model_agreement_109 : decode b_Model_agreement 109 = .ok (.if_icmp .ne 10, 3) := by decide +kernel
theorem d_Model_agreement_112 : decode b_Model_agreement 112 = .ok (.iload 4, 2) := by decide +kernel
theorem d_Model_agreement_114 : decode b_Model_agreement 114 = .ok (.iconst 1, 1) := by decide +kernel
theorem d_Model_agreement_115 : decode b_Model_agreement 115 = .ok (.iadd, 1) := by decide +kernel
theorem d_Model_agreement_116 : decode b_Model_agreement 116 = .ok (.goto 5, 3) := by decide +kernel
theorem d_Model_agreement_119 : decode b_Model_agreement 119 = .ok (.iload 4, 2) := by decide +kernel
theorem d_Model_agreement_121 : decode b_Model_agreement 121 = .ok (.istore 4, 2) := by decide +kernel
theorem d_Model_agreement_123 : decode b_Model_agreement 123 = .ok (.iinc 5 1, 3) := by decide +kernel
theorem d_Model_agreement_126 : decode b_Model_agreement 126 = .ok (.goto (-79), 3) := by decide +kernel
theorem d_Model_agreement_129 : decode b_Model_agreement 129 = .ok (.iload 4, 2) := by decide +kernel
theorem d_Model_agreement_131 : decode b_Model_agreement 131 = .ok (.i2l, 1) := by decide +kernel
theorem d_Model_agreement_132 : decode b_Model_agreement 132 = .ok (.lreturn, 1) := by decide +kernel
theorem d_Model_waiting_0 : decode b_Model_waiting 0 = .ok (.aload_n 0, 1) := by decide +kernel
theorem d_Model_waiting_1 : decode b_Model_waiting 1 = .ok (.iconst 0, 1) := by decide +kernel
theorem d_Model_waiting_2 : decode b_Model_waiting 2 = .ok (.putfield 52, 3) := by decide +kernel
theorem d_Model_waiting_5 : decode b_Model_waiting 5 = .ok (.aload_n 0, 1) := by decide +kernel
theorem d_Model_waiting_6 : decode b_Model_waiting 6 = .ok (.invokevirtual 76, 3) := by decide +kernel
theorem d_Model_waiting_9 : decode b_Model_waiting 9 = .ok (.ireturn, 1) := by decide +kernel
