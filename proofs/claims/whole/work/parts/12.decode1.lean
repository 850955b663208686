theorem d_ClerkRows_init_0 : decode b_ClerkRows_init 0 = .ok (.aload_n 0, 1) := by decide +kernel
theorem d_ClerkRows_init_1 : decode b_ClerkRows_init 1 = .ok (.invokespecial 1, 3) := by decide +kernel
theorem d_ClerkRows_init_4 : decode b_ClerkRows_init 4 = .ok (.aload_n 0, 1) := by decide +kernel
theorem d_ClerkRows_init_5 : decode b_ClerkRows_init 5 = .ok (.sipush 300, 3) := by decide +kernel
theorem d_ClerkRows_init_8 : decode b_ClerkRows_init 8 = .ok (.anewarray 9, 3) := by decide +kernel
theorem d_ClerkRows_init_11 : decode b_ClerkRows_init 11 = .ok (.putfield 11, 3) := by decide +kernel
theorem d_ClerkRows_init_14 : decode b_ClerkRows_init 14 = .ok (.aload_n 0, 1) := by decide +kernel
theorem d_ClerkRows_init_15 : decode b_ClerkRows_init 15 = .ok (.bipush 20, 2) := by decide +kernel
theorem d_ClerkRows_init_17 : decode b_ClerkRows_init 17 = .ok (.anewarray 15, 3) := by decide +kernel
theorem d_ClerkRows_init_20 : decode b_ClerkRows_init 20 = .ok (.putfield 17, 3) := by decide +kernel
theorem d_ClerkRows_init_23 : decode b_ClerkRows_init 23 = .ok (.aload_n 0, 1) := by decide +kernel
theorem d_ClerkRows_init_24 : decode b_ClerkRows_init 24 = .ok (.iconst 0, 1) := by decide +kernel
theorem d_ClerkRows_init_25 : decode b_ClerkRows_init 25 = .ok (.putfield 21, 3) := by decide +kernel
theorem d_ClerkRows_init_28 : decode b_ClerkRows_init 28 = .ok (.aload_n 0, 1) := by decide +kernel
theorem d_ClerkRows_init_29 : decode b_ClerkRows_init 29 = .ok (.lconst 0, 1) := by decide +kernel
theorem d_ClerkRows_init_30 : decode b_ClerkRows_init 30 = .ok (.putfield 25, 3) := by decide +kernel
theorem d_ClerkRows_init_33 : decode b_ClerkRows_init 33 = .ok (.aload_n 0, 1) := by decide +kernel
theorem d_ClerkRows_init_34 : decode b_ClerkRows_init 34 = .ok (.iconst 0, 1) := by decide +kernel
theorem d_ClerkRows_init_35 : decode b_ClerkRows_init 35 = .ok (.putfield 29, 3) := by decide +kernel
theorem d_ClerkRows_init_38 : decode b_ClerkRows_init 38 = .ok (.aload_n 0, 1) := by decide +kernel
theorem d_ClerkRows_init_39 : decode b_ClerkRows_init 39 = .ok (.iconst 1, 1) := by decide +kernel
theorem d_ClerkRows_init_40 : decode b_ClerkRows_init 40 = .ok (.bipush 100, 2) := by decide +kernel
theorem d_ClerkRows_init_42 : decode b_ClerkRows_init 42 = .ok (.iload_n 1, 1) := by decide +kernel
theorem d_ClerkRows_init_43 : decode b_ClerkRows_init 43 = .ok (.invokestatic 32, 3) := by decide +kernel
theorem d_ClerkRows_init_46 : decode b_ClerkRows_init 46 = .ok (.invokestatic 38, 3) := by decide +kernel
theorem d_ClerkRows_init_49 : decode b_ClerkRows_init 49 = .ok (.putfield 41, 3) := by decide +kernel
theorem d_ClerkRows_init_52 : decode b_ClerkRows_init 52 = .ok (.iconst 0, 1) := by decide +kernel
theorem d_ClerkRows_init_53 : decode b_ClerkRows_init 53 = .ok (.istore_n 2, 1) := by decide +kernel
theorem d_ClerkRows_init_54 : decode b_ClerkRows_init 54 = .ok (.iload_n 2, 1) := by decide +kernel
theorem d_ClerkRows_init_55 : decode b_ClerkRows_init 55 = .ok (.bipush 20, 2) := by decide +kernel
theorem d_ClerkRows_init_57 : decode b_ClerkRows_init 57 = .ok (.if_icmp .ge 23, 3) := by decide +kernel
theorem d_ClerkRows_init_60 : decode b_ClerkRows_init 60 = .ok (.aload_n 0, 1) := by decide +kernel
theorem d_ClerkRows_init_61 : decode b_ClerkRows_init 61 = .ok (.getfield 17, 3) := by decide +kernel
theorem d_ClerkRows_init_64 : decode b_ClerkRows_init 64 = .ok (.iload_n 2, 1) := by decide +kernel
theorem d_ClerkRows_init_65 : decode b_ClerkRows_init 65 = .ok (.new 15, 3) := by decide +kernel
theorem d_ClerkRows_init_68 : decode b_ClerkRows_init 68 = .ok (.dup, 1) := by decide +kernel
theorem d_ClerkRows_init_69 : decode b_ClerkRows_init 69 = .ok (.iload_n 2, 1) := by decide +kernel
theorem d_ClerkRows_init_70 : decode b_ClerkRows_init 70 = .ok (.invokespecial 44, 3) := by decide +kernel
theorem d_ClerkRows_init_73 : decode b_ClerkRows_init 73 = .ok (.aastore, 1) := by decide +kernel
theorem d_ClerkRows_init_74 : decode b_ClerkRows_init 74 = .ok (.iinc 2 1, 3) := by decide +kernel
theorem d_ClerkRows_init_77 : decode b_ClerkRows_init 77 = .ok (.goto (-23), 3) := by decide +kernel
theorem d_ClerkRows_init_80 : decode b_ClerkRows_init 80 = .ok (.return_, 1) := by decide +kernel
theorem d_ClerkRows_picture_0 : decode b_ClerkRows_picture 0 = .ok (.aload_n 0, 1) := by decide +kernel
theorem d_ClerkRows_picture_1 : decode b_ClerkRows_picture 1 = .ok (.lload_n 1, 1) := by decide +kernel
theorem d_ClerkRows_picture_2 : decode b_ClerkRows_picture 2 = .ok (.invokevirtual 47, 3) := by decide +kernel
theorem d_ClerkRows_picture_5 : decode b_ClerkRows_picture 5 = .ok (.ifCond .eq 11, 3) := by decide +kernel
theorem d_ClerkRows_picture_8 : decode b_ClerkRows_picture 8 = .ok (.iload_n 3, 1) := by decide +kernel
theorem d_ClerkRows_picture_9 : decode b_ClerkRows_picture 9 = .ok (.iconst 3, 1) := by decide +kernel
theorem d_ClerkRows_picture_10 : decode b_ClerkRows_picture 10 = .ok (.invokestatic 51, 3) := by decide +kernel
theorem d_ClerkRows_picture_13 : decode b_ClerkRows_picture 13 = .ok (.ifCond .ne 6, 3) := by decide +kernel
theorem d_ClerkRows_picture_16 : decode b_ClerkRows_picture 16 = .ok (.bipush (-102), 2) := by decide +kernel
theorem d_ClerkRows_picture_18 : decode b_ClerkRows_picture 18 = .ok (.ireturn, 1) := by decide +kernel
theorem d_ClerkRows_picture_19 : decode b_ClerkRows_picture 19 = .ok (.aload_n 0, 1) := by decide +kernel
theorem d_ClerkRows_picture_20 : decode b_ClerkRows_picture 20 = .ok (.getfield 21, 3) := by decide +kernel
theorem d_ClerkRows_picture_23 : decode b_ClerkRows_picture 23 = .ok (.sipush 300, 3) := by decide +kernel
theorem d_ClerkRows_picture_26 : decode b_ClerkRows_picture 26 = .ok (.if_icmp .lt 6, 3) := by decide +kernel
theorem d_ClerkRows_picture_29 : decode b_ClerkRows_picture 29 = .ok (.bipush (-104), 2) := by decide +kernel
theorem d_ClerkRows_picture_31 : decode b_ClerkRows_picture 31 = .ok (.ireturn, 1) := by decide +kernel
theorem d_ClerkRows_picture_32 : decode b_ClerkRows_picture 32 = .ok (.aload_n 0, 1) := by decide +kernel
theorem d_ClerkRows_picture_33 : decode b_ClerkRows_picture 33 = .ok (.invokevirtual 55, 3) := by decide +kernel
theorem d_ClerkRows_picture_36 : decode b_ClerkRows_picture 36 = .ok (.aload_n 0, 1) := by decide +kernel
theorem d_ClerkRows_picture_37 : decode b_ClerkRows_picture 37 = .ok (.getfield 41, 3) := by decide +kernel
theorem d_ClerkRows_picture_40 : decode b_ClerkRows_picture 40 = .ok (.if_icmp .lt 5, 3) := by decide +kernel
theorem d_ClerkRows_picture_43 : decode b_ClerkRows_picture 43 = .ok (.iconst 0, 1) := by decide +kernel
theorem d_ClerkRows_picture_44 : decode b_ClerkRows_picture 44 = .ok (.ireturn, 1) := by decide +kernel
theorem d_ClerkRows_picture_45 : decode b_ClerkRows_picture 45 = .ok (.aload_n 0, 1) := by decide +kernel
theorem d_ClerkRows_picture_46 : decode b_ClerkRows_picture 46 = .ok (.getfield 11, 3) := by decide +kernel
theorem d_ClerkRows_picture_49 : decode b_ClerkRows_picture 49 = .ok (.aload_n 0, 1) := by decide +kernel
theorem d_ClerkRows_picture_50 : decode b_ClerkRows_picture 50 = .ok (.getfield 21, 3) := by decide +kernel
theorem d_ClerkRows_picture_53 : decode b_ClerkRows_picture 53 = .ok (.new 9, 3) := by decide +kernel
theorem d_ClerkRows_picture_56 : decode b_ClerkRows_picture 56 = .ok (.dup, 1) := by decide +kernel
theorem d_ClerkRows_picture_57 : decode b_ClerkRows_picture 57 = .ok (.aload_n 0, 1) := by decide +kernel
theorem d_ClerkRows_picture_58 : decode b_ClerkRows_picture 58 = .ok (.getfield 21, 3) := by decide +kernel
theorem d_ClerkRows_picture_61 : decode b_ClerkRows_picture 61 = .ok (.iconst 1, 1) := by decide +kernel
theorem d_ClerkRows_picture_62 : decode b_ClerkRows_picture 62 = .ok (.iadd, 1) := by decide +kernel
theorem d_ClerkRows_picture_63 : decode b_ClerkRows_picture 63 = .ok (.lload_n 1, 1) := by decide +kernel
theorem d_ClerkRows_picture_64 : decode b_ClerkRows_picture 64 = .ok (.iload_n 3, 1) := by decide +kernel
theorem d_ClerkRows_picture_65 : decode b_ClerkRows_picture 65 = .ok (.invokespecial 59, 3) := by decide +kernel
theorem d_ClerkRows_picture_68 : decode b_ClerkRows_picture 68 = .ok (.aastore, 1) := by decide +kernel
theorem d_ClerkRows_picture_69 : decode b_ClerkRows_picture 69 = .ok (.aload_n 0, 1) := by decide +kernel
theorem d_ClerkRows_picture_70 : decode b_ClerkRows_picture 70 = .ok (.dup, 1) := by decide +kernel
theorem d_ClerkRows_picture_71 : decode b_ClerkRows_picture 71 = .ok (.getfield 21, 3) := by decide +kernel
theorem d_ClerkRows_picture_74 : decode b_ClerkRows_picture 74 = .ok (.iconst 1, 1) := by decide +kernel
theorem d_ClerkRows_picture_75 : decode b_ClerkRows_picture 75 = .ok (.iadd, 1) := by decide +kernel
theorem d_ClerkRows_picture_76 : decode b_ClerkRows_picture 76 = .ok (.putfield 21, 3) := by decide +kernel
theorem d_ClerkRows_picture_79 : decode b_ClerkRows_picture 79 = .ok (.aload_n 0, 1) := by decide +kernel
theorem d_ClerkRows_picture_80 : decode b_ClerkRows_picture 80 = .ok (.getfield 21, 3) := by decide +kernel
theorem d_ClerkRows_picture_83 : decode b_ClerkRows_picture 83 = .ok (.ireturn, 1) := by decide +kernel
theorem d_ClerkRows_give_0 : decode b_ClerkRows_give 0 = .ok (.aload_n 0, 1) := by decide +kernel
theorem d_ClerkRows_give_1 : decode b_ClerkRows_give 1 = .ok (.iload_n 1, 1) := by decide +kernel
theorem d_ClerkRows_give_2 : decode b_ClerkRows_give 2 = .ok (.invokevirtual 62, 3) := by decide +kernel
theorem d_ClerkRows_give_5 : decode b_ClerkRows_give 5 = .ok (.astore 4, 2) := by decide +kernel
theorem d_ClerkRows_give_7 : decode b_ClerkRows_give 7 = .ok (.aload 4, 2) := by decide +kernel
theorem d_ClerkRows_give_9 : decode b_ClerkRows_give 9 = .ok (.ifnonnull 6, 3) := by decide +kernel
theorem d_ClerkRows_give_12 : decode b_ClerkRows_give 12 = .ok (.bipush (-101), 2) := by decide +kernel
theorem d_ClerkRows_give_14 : decode b_ClerkRows_give 14 = .ok (.ireturn, 1) := by decide +kernel
theorem d_ClerkRows_give_15 : decode b_ClerkRows_give 15 = .ok (.aload_n 0, 1) := by decide +kernel
theorem d_ClerkRows_give_16 : decode b_ClerkRows_give 16 = .ok (.lload_n 2, 1) := by decide +kernel
theorem d_ClerkRows_give_17 : decode b_ClerkRows_give 17 = .ok (.invokevirtual 47, 3) := by decide +kernel
theorem d_ClerkRows_give_20 : decode b_ClerkRows_give 20 = .ok (.ifCond .ne 6, 3) := by decide +kernel
theorem d_ClerkRows_give_23 : decode b_ClerkRows_give 23 = .ok (.bipush (-102), 2) := by decide +kernel
theorem d_ClerkRows_give_25 : decode b_ClerkRows_give 25 = .ok (.ireturn, 1) := by decide +kernel
theorem d_ClerkRows_give_26 : decode b_ClerkRows_give 26 = .ok (.aload 4, 2) := by decide +kernel
theorem d_ClerkRows_give_28 : decode b_ClerkRows_give 28 = .ok (.getfield 66, 3) := by decide +kernel
theorem d_ClerkRows_give_31 : decode b_ClerkRows_give 31 = .ok (.ifCond .eq 11, 3) := by decide +kernel
theorem d_ClerkRows_give_34 : decode b_ClerkRows_give 34 = .ok (.aload 4, 2) := by decide +kernel
theorem d_ClerkRows_give_36 : decode b_ClerkRows_give 36 = .ok (.getfield 70, 3) := by decide +kernel
theorem d_ClerkRows_give_39 : decode b_ClerkRows_give 39 = .ok (.ifnull 6, 3) := by decide +kernel
theorem d_ClerkRows_give_42 : decode b_ClerkRows_give 42 = .ok (.bipush (-103), 2) := by decide +kernel
theorem d_ClerkRows_give_44 : decode b_ClerkRows_give 44 = .ok (.ireturn, 1) := by decide +kernel
theorem d_ClerkRows_give_45 : decode b_ClerkRows_give 45 = .ok (.aload_n 0, 1) := by decide +kernel
theorem d_ClerkRows_give_46 : decode b_ClerkRows_give 46 = .ok (.lload_n 2, 1) := by decide +kernel
theorem d_ClerkRows_give_47 : decode b_ClerkRows_give 47 = .ok (.invokevirtual 74, 3) := by decide +kernel
theorem d_ClerkRows_give_50 : decode b_ClerkRows_give 50 = .ok (.aload_n 0, 1) := by decide +kernel
theorem d_ClerkRows_give_51 : decode b_ClerkRows_give 51 = .ok (.aload 4, 2) := by decide +kernel
theorem d_ClerkRows_give_53 : decode b_ClerkRows_give 53 = .ok (.invokevirtual 78, 3) := by decide +kernel
theorem d_ClerkRows_give_56 : decode b_ClerkRows_give 56 = .ok (.astore 5, 2) := by decide +kernel
theorem d_ClerkRows_give_58 : decode b_ClerkRows_give 58 = .ok (.aload 5, 2) := by decide +kernel
theorem d_ClerkRows_give_60 : decode b_ClerkRows_give 60 = .ok (.ifnonnull 5, 3) := by decide +kernel
theorem d_ClerkRows_give_63 : decode b_ClerkRows_give 63 = .ok (.iconst 0, 1) := by decide +kernel
theorem d_ClerkRows_give_64 : decode b_ClerkRows_give 64 = .ok (.ireturn, 1) := by decide +kernel
theorem d_ClerkRows_give_65 : decode b_ClerkRows_give 65 = .ok (.aload 4, 2) := by decide +kernel
theorem d_ClerkRows_give_67 : decode b_ClerkRows_give 67 = .ok (.aload 5, 2) := by decide +kernel
theorem d_ClerkRows_give_69 : decode b_ClerkRows_give 69 = .ok (.aload 4, 2) := by decide +kernel
theorem d_ClerkRows_give_71 : decode b_ClerkRows_give 71 = .ok (.invokevirtual 82, 3) := by decide +kernel
theorem d_ClerkRows_give_74 : decode b_ClerkRows_give 74 = .ok (.putfield 70, 3) := by decide +kernel
theorem d_ClerkRows_give_77 : decode b_ClerkRows_give 77 = .ok (.aload 5, 2) := by decide +kernel
theorem d_ClerkRows_give_79 : decode b_ClerkRows_give 79 = .ok (.getfield 86, 3) := by decide +kernel
theorem d_ClerkRows_give_82 : decode b_ClerkRows_give 82 = .ok (.ireturn, 1) := by decide +kernel
theorem d_ClerkRows_answer_0 : decode b_ClerkRows_answer 0 = .ok (.aload_n 0, 1) := by decide +kernel
theorem d_ClerkRows_answer_1 : decode b_ClerkRows_answer 1 = .ok (.iload_n 1, 1) := by decide +kernel
theorem d_ClerkRows_answer_2 : decode b_ClerkRows_answer 2 = .ok (.invokevirtual 62, 3) := by decide +kernel
theorem d_ClerkRows_answer_5 : decode b_ClerkRows_answer 5 = .ok (.astore 6, 2) := by decide +kernel
theorem d_ClerkRows_answer_7 : decode b_ClerkRows_answer 7 = .ok (.aload_n 0, 1) := by decide +kernel
theorem d_ClerkRows_answer_8 : decode b_ClerkRows_answer 8 = .ok (.iload_n 2, 1) := by decide +kernel
theorem d_ClerkRows_answer_9 : decode b_ClerkRows_answer 9 = .ok (.invokevirtual 89, 3) := by decide +kernel
theorem d_ClerkRows_answer_12 : decode b_ClerkRows_answer 12 = .ok (.astore 7, 2) := by decide +kernel
theorem d_ClerkRows_answer_14 : decode b_ClerkRows_answer 14 = .ok (.aload 6, 2) := by decide +kernel
theorem d_ClerkRows_answer_16 : decode b_ClerkRows_answer 16 = .ok (.ifnull 8, 3) := by decide +kernel
theorem d_ClerkRows_answer_19 : decode b_ClerkRows_answer 19 = .ok (.aload 7, 2) := by decide +kernel
theorem d_ClerkRows_answer_21 : decode b_ClerkRows_answer 21 = .ok (.ifnonnull 6, 3) := by decide +kernel
theorem d_ClerkRows_answer_24 : decode b_ClerkRows_answer 24 = .ok (.bipush (-101), 2) := by decide +kernel
theorem d_ClerkRows_answer_26 : decode b_ClerkRows_answer 26 = .ok (.ireturn, 1) := by decide +kernel
theorem d_ClerkRows_answer_27 : decode b_ClerkRows_answer 27 = .ok (.iload_n 3, 1) := by decide +kernel
theorem d_ClerkRows_answer_28 : decode b_ClerkRows_answer 28 = .ok (.sipush 9999, 3) := by decide +kernel
theorem d_ClerkRows_answer_31 : decode b_ClerkRows_answer 31 = .ok (.invokestatic 51, 3) := by decide +kernel
theorem d_ClerkRows_answer_34 : decode b_ClerkRows_answer 34 = .ok (.ifCond .eq 12, 3) := by decide +kernel
theorem d_ClerkRows_answer_37 : decode b_ClerkRows_answer 37 = .ok (.aload_n 0, 1) := by decide +kernel
theorem d_ClerkRows_answer_38 : decode b_ClerkRows_answer 38 = .ok (.lload 4, 2) := by decide +kernel
theorem d_ClerkRows_answer_40 : decode b_ClerkRows_answer 40 = .ok (.invokevirtual 47, 3) := by decide +kernel
theorem d_ClerkRows_answer_43 : decode b_ClerkRows_answer 43 = .ok (.ifCond .ne 6, 3) := by decide +kernel
theorem d_ClerkRows_answer_46 : decode b_ClerkRows_answer 46 = .ok (.bipush (-102), 2) := by decide +kernel
theorem d_ClerkRows_answer_48 : decode b_ClerkRows_answer 48 = .ok (.ireturn, 1) := by decide +kernel
theorem d_ClerkRows_answer_49 : decode b_ClerkRows_answer 49 = .ok (.aload 6, 2) := by decide +kernel
theorem d_ClerkRows_answer_51 : decode b_ClerkRows_answer 51 = .ok (.getfield 70, 3) := by decide +kernel
theorem d_ClerkRows_answer_54 : decode b_ClerkRows_answer 54 = .ok (.astore 8, 2) := by decide +kernel
theorem d_ClerkRows_answer_56 : decode b_ClerkRows_answer 56 = .ok (.aload 8, 2) := by decide +kernel
theorem d_ClerkRows_answer_58 : decode b_ClerkRows_answer 58 = .ok (.ifnull 12, 3) := by decide +kernel
theorem d_ClerkRows_answer_61 : decode b_ClerkRows_answer 61 = .ok (.aload 8, 2) := by decide +kernel
theorem d_ClerkRows_answer_63 : decode b_ClerkRows_answer 63 = .ok (.getfield 93, 3) := by decide +kernel
theorem d_ClerkRows_answer_66 : decode b_ClerkRows_answer 66 = .ok (.iload_n 2, 1) := by decide +kernel
theorem d_ClerkRows_answer_67 : decode b_ClerkRows_answer 67 = .ok (.if_icmp .eq 6, 3) := by decide +kernel
theorem d_ClerkRows_answer_70 : decode b_ClerkRows_answer 70 = .ok (.bipush (-103), 2) := by decide +kernel
theorem d_ClerkRows_answer_72 : decode b_ClerkRows_answer 72 = .ok (.ireturn, 1) := by decide +kernel
theorem d_ClerkRows_answer_73 : decode b_ClerkRows_answer 73 = .ok (.aload_n 0, 1) := by decide +kernel
theorem d_ClerkRows_answer_74 : decode b_ClerkRows_answer 74 = .ok (.lload 4, 2) := by decide +kernel
theorem d_ClerkRows_answer_76 : decode b_ClerkRows_answer 76 = .ok (.invokevirtual 74, 3) := by decide +kernel
theorem d_ClerkRows_answer_79 : decode b_ClerkRows_answer 79 = .ok (.aload 6, 2) := by decide +kernel
theorem d_ClerkRows_answer_81 : decode b_ClerkRows_answer 81 = .ok (.aconst_null, 1) := by decide +kernel
theorem d_ClerkRows_answer_82 : decode b_ClerkRows_answer 82 = .ok (.putfield 70, 3) := by decide +kernel
theorem d_ClerkRows_answer_85 : decode b_ClerkRows_answer 85 = .ok (.aload 7, 2) := by decide +kernel
theorem d_ClerkRows_answer_87 : decode b_ClerkRows_answer 87 = .ok (.aload 8, 2) := by decide +kernel
theorem d_ClerkRows_answer_89 : decode b_ClerkRows_answer 89 = .ok (.iload_n 3, 1) := by decide +kernel
theorem d_ClerkRows_answer_90 : decode b_ClerkRows_answer 90 = .ok (.invokevirtual 98, 3) := by decide +kernel
theorem d_ClerkRows_answer_93 : decode b_ClerkRows_answer 93 = .ok (.aload 7, 2) := by decide +kernel
theorem d_ClerkRows_answer_95 : decode b_ClerkRows_answer 95 = .ok (.invokevirtual 102, 3) := by decide +kernel
theorem d_ClerkRows_answer_98 : decode b_ClerkRows_answer 98 = .ok (.ireturn, 1) := by decide +kernel
theorem d_ClerkRows_office_0 : decode b_ClerkRows_office 0 = .ok (.aload_n 0, 1) := by decide +kernel
theorem d_ClerkRows_office_1 : decode b_ClerkRows_office 1 = .ok (.iload_n 1, 1) := by decide +kernel
theorem d_ClerkRows_office_2 : decode b_ClerkRows_office 2 = .ok (.invokevirtual 62, 3) := by decide +kernel
theorem d_ClerkRows_office_5 : decode b_ClerkRows_office 5 = .ok (.astore 4, 2) := by decide +kernel
theorem d_ClerkRows_office_7 : decode b_ClerkRows_office 7 = .ok (.aload 4, 2) := by decide +kernel
theorem d_ClerkRows_office_9 : decode b_ClerkRows_office 9 = .ok (.ifnonnull 6, 3) := by decide +kernel
theorem d_ClerkRows_office_12 : decode b_ClerkRows_office 12 = .ok (.bipush (-101), 2) := by decide +kernel
theorem d_ClerkRows_office_14 : decode b_ClerkRows_office 14 = .ok (.ireturn, 1) := by decide +kernel
theorem d_ClerkRows_office_15 : decode b_ClerkRows_office 15 = .ok (.iload_n 2, 1) := by decide +kernel
theorem d_ClerkRows_office_16 : decode b_ClerkRows_office 16 = .ok (.iconst 4, 1) := by decide +kernel
theorem d_ClerkRows_office_17 : decode b_ClerkRows_office 17 = .ok (.invokestatic 51, 3) := by decide +kernel
theorem d_ClerkRows_office_20 : decode b_ClerkRows_office 20 = .ok (.ifCond .eq 11, 3) := by decide +kernel
theorem d_ClerkRows_office_23 : decode b_ClerkRows_office 23 = .ok (.iload_n 3, 1) := by decide +kernel
theorem d_ClerkRows_office_24 : decode b_ClerkRows_office 24 = .ok (.iconst 3, 1) := by decide +kernel
theorem d_ClerkRows_office_25 : decode b_ClerkRows_office 25 = .ok (.invokestatic 51, 3) := by decide +kernel
theorem d_ClerkRows_office_28 : decode b_ClerkRows_office 28 = .ok (.ifCond .ne 6, 3) := by decide +kernel
theorem d_ClerkRows_office_31 : decode b_ClerkRows_office 31 = .ok (.bipush (-102), 2) := by decide +kernel
theorem d_ClerkRows_office_33 : decode b_ClerkRows_office 33 = .ok (.ireturn, 1) := by decide +kernel
theorem d_ClerkRows_office_34 : decode b_ClerkRows_office 34 = .ok (.aload 4, 2) := by decide +kernel
theorem d_ClerkRows_office_36 : decode b_ClerkRows_office 36 = .ok (.getfield 66, 3) := by decide +kernel
theorem d_ClerkRows_office_39 : decode b_ClerkRows_office 39 = .ok (.ifCond .eq 23, 3) := by decide +kernel
theorem d_ClerkRows_office_42 : decode b_ClerkRows_office 42 = .ok (.aload 4, 2) := by decide +kernel
theorem d_ClerkRows_office_44 : decode b_ClerkRows_office 44 = .ok (.getfield 105, 3) := by decide +kernel
theorem d_ClerkRows_office_47 : decode b_ClerkRows_office 47 = .ok (.iload_n 2, 1) := by decide +kernel
theorem d_ClerkRows_office_48 : decode b_ClerkRows_office 48 = .ok (.if_icmp .ne 14, 3) := by decide +kernel
theorem d_ClerkRows_office_51 : decode b_ClerkRows_office 51 = .ok (.aload 4, 2) := by decide +kernel
theorem d_ClerkRows_office_53 : decode b_ClerkRows_office 53 = .ok (.getfield 108, 3) := by decide +kernel
theorem d_ClerkRows_office_56 : decode b_ClerkRows_office 56 = .ok (.iload_n 3, 1) := by decide +kernel
theorem d_ClerkRows_office_57 : decode b_ClerkRows_office 57 = .ok (.if_icmp .ne 5, 3) := by decide +kernel
theorem d_ClerkRows_office_60 : decode b_ClerkRows_office 60 = .ok (.iconst 0, 1) := by decide +kernel
theorem d_ClerkRows_office_61 : decode b_ClerkRows_office 61 = .ok (.ireturn, 1) := by decide +kernel
theorem d_ClerkRows_office_62 : decode b_ClerkRows_office 62 = .ok (.aload 4, 2) := by decide +kernel
theorem d_ClerkRows_office_64 : decode b_ClerkRows_office 64 = .ok (.iconst 1, 1) := by decide +kernel
theorem d_ClerkRows_office_65 : decode b_ClerkRows_office 65 = .ok (.putfield 66, 3) := by decide +kernel
theorem d_ClerkRows_office_68 : decode b_ClerkRows_office 68 = .ok (.aload 4, 2) := by decide +kernel
theorem d_ClerkRows_office_70 : decode b_ClerkRows_office 70 = .ok (.iload_n 2, 1) := by decide +kernel
theorem d_ClerkRows_office_71 : decode b_ClerkRows_office 71 = .ok (.putfield 105, 3) := by decide +kernel
theorem d_ClerkRows_office_74 : decode b_ClerkRows_office 74 = .ok (.aload 4, 2) := by decide +kernel
theorem d_ClerkRows_office_76 : decode b_ClerkRows_office 76 = .ok (.iload_n 3, 1) := by decide +kernel
theorem d_ClerkRows_office_77 : decode b_ClerkRows_office 77 = .ok (.putfield 108, 3) := by decide +kernel
theorem d_ClerkRows_office_80 : decode b_ClerkRows_office 80 = .ok (.iconst 1, 1) := by decide +kernel
theorem d_ClerkRows_office_81 : decode b_ClerkRows_office 81 = .ok (.ireturn, 1) := by decide +kernel
theorem d_ClerkRows_leave_0 : decode b_ClerkRows_leave 0 = .ok (.aload_n 0, 1) := by decide +kernel
theorem d_ClerkRows_leave_1 : decode b_ClerkRows_leave 1 = .ok (.iload_n 1, 1) := by decide +kernel
theorem d_ClerkRows_leave_2 : decode b_ClerkRows_leave 2 = .ok (.invokevirtual 62, 3) := by decide +kernel
theorem d_ClerkRows_leave_5 : decode b_ClerkRows_leave 5 = .ok (.astore_n 2, 1) := by decide +kernel
theorem d_ClerkRows_leave_6 : decode b_ClerkRows_leave 6 = .ok (.aload_n 2, 1) := by decide +kernel
theorem d_ClerkRows_leave_7 : decode b_ClerkRows_leave 7 = .ok (.ifnonnull 6, 3) := by decide +kernel
theorem d_ClerkRows_leave_10 : decode b_ClerkRows_leave 10 = .ok (.bipush (-101), 2) := by decide +kernel
theorem d_ClerkRows_leave_12 : decode b_ClerkRows_leave 12 = .ok (.ireturn, 1) := by decide +kernel
theorem d_ClerkRows_leave_13 : decode b_ClerkRows_leave 13 = .ok (.aload_n 2, 1) := by decide +kernel
theorem d_ClerkRows_leave_14 : decode b_ClerkRows_leave 14 = .ok (.getfield 66, 3) := by decide +kernel
theorem d_ClerkRows_leave_17 : decode b_ClerkRows_leave 17 = .ok (.ifCond .ne 6, 3) := by decide +kernel
theorem d_ClerkRows_leave_20 : decode b_ClerkRows_leave 20 = .ok (.bipush (-103), 2) := by decide +kernel
theorem d_ClerkRows_leave_22 : decode b_ClerkRows_leave 22 = .ok (.ireturn, 1) := by decide +kernel
theorem d_ClerkRows_leave_23 : decode b_ClerkRows_leave 23 = .ok (.aload_n 2, 1) := by decide +kernel
theorem d_ClerkRows_leave_24 : decode b_ClerkRows_leave 24 = .ok (.iconst 0, 1) := by decide +kernel
theorem d_ClerkRows_leave_25 : decode b_ClerkRows_leave 25 = .ok (.putfield 66, 3) := by decide +kernel
theorem d_ClerkRows_leave_28 : decode b_ClerkRows_leave 28 = .ok (.aload_n 2, 1) := by decide +kernel
theorem d_ClerkRows_leave_29 : decode b_ClerkRows_leave 29 = .ok (.getfield 70, 3) := by decide +kernel
theorem d_ClerkRows_leave_32 : decode b_ClerkRows_leave 32 = .ok (.astore_n 3, 1) := by decide +kernel
theorem d_ClerkRows_leave_33 : decode b_ClerkRows_leave 33 = .ok (.aload_n 3, 1) := by decide +kernel
theorem d_ClerkRows_leave_34 : decode b_ClerkRows_leave 34 = .ok (.ifnonnull 5, 3) := by decide +kernel
theorem d_ClerkRows_leave_37 : decode b_ClerkRows_leave 37 = .ok (.iconst 0, 1) := by decide +kernel
theorem d_ClerkRows_leave_38 : decode b_ClerkRows_leave 38 = .ok (.ireturn, 1) := by decide +kernel
theorem d_ClerkRows_leave_39 : decode b_ClerkRows_leave 39 = .ok (.aload_n 3, 1) := by decide +kernel
theorem d_ClerkRows_leave_40 : decode b_ClerkRows_leave 40 = .ok (.bipush (-2), 2) := by decide +kernel
theorem d_ClerkRows_leave_42 : decode b_ClerkRows_leave 42 = .ok (.putfield 111, 3) := by decide +kernel
theorem d_ClerkRows_leave_45 : decode b_ClerkRows_leave 45 = .ok (.aload_n 2, 1) := by decide +kernel
theorem d_ClerkRows_leave_46 : decode b_ClerkRows_leave 46 = .ok (.aconst_null, 1) := by decide +kernel
theorem d_ClerkRows_leave_47 : decode b_ClerkRows_leave 47 = .ok (.putfield 70, 3) := by decide +kernel
theorem d_ClerkRows_leave_50 : decode b_ClerkRows_leave 50 = .ok (.iconst 1, 1) := by decide +kernel
theorem d_ClerkRows_leave_51 : decode b_ClerkRows_leave 51 = .ok (.ireturn, 1) := by decide +kernel
theorem d_ClerkRows_tick_0 : decode b_ClerkRows_tick 0 = .ok (.aload_n 0, 1) := by decide +kernel
theorem d_ClerkRows_tick_1 : decode b_ClerkRows_tick 1 = .ok (.lload_n 1, 1) := by decide +kernel
theorem d_ClerkRows_tick_2 : decode b_ClerkRows_tick 2 = .ok (.invokevirtual 47, 3) := by decide +kernel
theorem d_ClerkRows_tick_5 : decode b_ClerkRows_tick 5 = .ok (.ifCond .ne 6, 3) := by decide +kernel
theorem d_ClerkRows_tick_8 : decode b_ClerkRows_tick 8 = .ok (.bipush (-102), 2) := by decide +kernel
theorem d_ClerkRows_tick_10 : decode b_ClerkRows_tick 10 = .ok (.ireturn, 1) := by decide +kernel
theorem d_ClerkRows_tick_11 : decode b_ClerkRows_tick 11 = .ok (.aload_n 0, 1) := by decide +kernel
theorem d_ClerkRows_tick_12 : decode b_ClerkRows_tick 12 = .ok (.lload_n 1, 1) := by decide +kernel
theorem d_ClerkRows_tick_13 : decode b_ClerkRows_tick 13 = .ok (.invokevirtual 74, 3) := by decide +kernel
theorem d_ClerkRows_tick_16 : decode b_ClerkRows_tick 16 = .ok (.aload_n 0, 1) := by decide +kernel
theorem d_ClerkRows_tick_17 : decode b_ClerkRows_tick 17 = .ok (.getfield 29, 3) := by decide +kernel
theorem d_ClerkRows_tick_20 : decode b_ClerkRows_tick 20 = .ok (.istore_n 3, 1) := by decide +kernel
theorem d_ClerkRows_tick_21 : decode b_ClerkRows_tick 21 = .ok (.aload_n 0, 1) := by decide +kernel
theorem d_ClerkRows_tick_22 : decode b_ClerkRows_tick 22 = .ok (.iconst 0, 1) := by decide +kernel
theorem d_ClerkRows_tick_23 : decode b_ClerkRows_tick 23 = .ok (.putfield 29, 3) := by decide +kernel
theorem d_ClerkRows_tick_26 : decode b_ClerkRows_tick 26 = .ok (.iload_n 3, 1) := by decide +kernel
theorem d_ClerkRows_tick_27 : decode b_ClerkRows_tick 27 = .ok (.ireturn, 1) := by decide +kernel
theorem d_ClerkRows_settled_0 : decode b_ClerkRows_settled 0 = .ok (.aload_n 0, 1) := by decide +kernel
theorem d_ClerkRows_settled_1 : decode b_ClerkRows_settled 1 = .ok (.iload_n 1, 1) := by decide +kernel
theorem d_ClerkRows_settled_2 : decode b_ClerkRows_settled 2 = .ok (.invokevirtual 89, 3) := by decide +kernel
theorem d_ClerkRows_settled_5 : decode b_ClerkRows_settled 5 = .ok (.astore_n 2, 1) := by decide +kernel
theorem d_ClerkRows_settled_6 : decode b_ClerkRows_settled 6 = .ok (.aload_n 2, 1) := by decide +kernel
theorem d_ClerkRows_settled_7 : decode b_ClerkRows_settled 7 = .ok (.ifnonnull 6, 3) := by decide +kernel
theorem d_ClerkRows_settled_10 : decode b_ClerkRows_settled 10 = .ok (.bipush (-101), 2) := by decide +kernel
theorem d_ClerkRows_settled_12 : decode b_ClerkRows_settled 12 = .ok (.ireturn, 1) := by decide +kernel
theorem d_ClerkRows_settled_13 : decode b_ClerkRows_settled 13 = .ok (.aload_n 2, 1) := by decide +kernel
theorem d_ClerkRows_settled_14 : decode b_ClerkRows_settled 14 = .ok (.invokevirtual 114, 3) := by decide +kernel
theorem d_ClerkRows_settled_17 : decode b_ClerkRows_settled 17 = .ok (.ifCond .ne 5, 3) := by decide +kernel
theorem d_ClerkRows_settled_20 : decode b_ClerkRows_settled 20 = .ok (.iconst (-1), 1) := by decide +kernel
theorem d_ClerkRows_settled_21 : decode b_ClerkRows_settled 21 = .ok (.ireturn, 1) := by decide +kernel
theorem d_ClerkRows_settled_22 : decode b_ClerkRows_settled 22 = .ok (.aload_n 2, 1) := by decide +kernel
theorem d_ClerkRows_settled_23 : decode b_ClerkRows_settled 23 = .ok (.getfield 118, 3) := by decide +kernel
theorem d_ClerkRows_settled_26 : decode b_ClerkRows_settled 26 = .ok (.ireturn, 1) := by decide +kernel
theorem d_ClerkRows_state_0 : decode b_ClerkRows_state 0 = .ok (.aload_n 0, 1) := by decide +kernel
theorem d_ClerkRows_state_1 : decode b_ClerkRows_state 1 = .ok (.iload_n 1, 1) := by decide +kernel
theorem d_ClerkRows_state_2 : decode b_ClerkRows_state 2 = .ok (.invokevirtual 89, 3) := by decide +kernel
theorem d_ClerkRows_state_5 : decode b_ClerkRows_state 5 = .ok (.astore_n 2, 1) := by decide +kernel
theorem d_ClerkRows_state_6 : decode b_ClerkRows_state 6 = .ok (.aload_n 2, 1) := by decide +kernel
theorem d_ClerkRows_state_7 : decode b_ClerkRows_state 7 = .ok (.ifnonnull 6, 3) := by decide +kernel
theorem d_ClerkRows_state_10 : decode b_ClerkRows_state 10 = .ok (.bipush (-101), 2) := by decide +kernel
theorem d_ClerkRows_state_12 : decode b_ClerkRows_state 12 = .ok (.ireturn, 1) := by decide +kernel
theorem d_ClerkRows_state_13 : decode b_ClerkRows_state 13 = .ok (.aload_n 2, 1) := by decide +kernel
theorem d_ClerkRows_state_14 : decode b_ClerkRows_state 14 = .ok (.invokevirtual 102, 3) := by decide +kernel
theorem d_ClerkRows_state_17 : decode b_ClerkRows_state 17 = .ok (.ireturn, 1) := by decide +kernel
theorem d_ClerkRows_agreement_0 : decode b_ClerkRows_agreement 0 = .ok (.aload_n 0, 1) := by decide +kernel
theorem d_ClerkRows_agreement_1 : decode b_ClerkRows_agreement 1 = .ok (.iload_n 1, 1) := by decide +kernel
theorem d_ClerkRows_agreement_2 : decode b_ClerkRows_agreement 2 = .ok (.invokevirtual 62, 3) := by decide +kernel
theorem d_ClerkRows_agreement_5 : decode b_ClerkRows_agreement 5 = .ok (.ifnull 11, 3) := by decide +kernel
theorem d_ClerkRows_agreement_8 : decode b_ClerkRows_agreement 8 = .ok (.aload_n 0, 1) := by decide +kernel
theorem d_ClerkRows_agreement_9 : decode b_ClerkRows_agreement 9 = .ok (.iload_n 2, 1) := by decide +kernel
theorem d_ClerkRows_agreement_10 : decode b_ClerkRows_agreement 10 = .ok (.invokevirtual 62, 3) := by decide +kernel
theorem d_ClerkRows_agreement_13 : decode b_ClerkRows_agreement 13 = .ok (.ifnonnull 7, 3) := by decide +kernel
theorem d_ClerkRows_agreement_16 : decode b_ClerkRows_agreement 16 = .ok (.ldc2_w 121, 3) := by decide +kernel
theorem d_ClerkRows_agreement_19 : decode b_ClerkRows_agreement 19 = .ok (.lreturn, 1) := by decide +kernel
theorem d_ClerkRows_agreement_20 : decode b_ClerkRows_agreement 20 = .ok (.iload_n 3, 1) := by decide +kernel
theorem d_ClerkRows_agreement_21 : decode b_ClerkRows_agreement 21 = .ok (.iconst 1, 1) := by decide +kernel
theorem d_ClerkRows_agreement_22 : decode b_ClerkRows_agreement 22 = .ok (.invokestatic 51, 3) := by decide +kernel
theorem d_ClerkRows_agreement_25 : decode b_ClerkRows_agreement 25 = .ok (.ifCond .eq 8, 3) := by decide +kernel
theorem d_ClerkRows_agreement_28 : decode b_ClerkRows_agreement 28 = .ok (.iload_n 1, 1) := by decide +kernel
theorem d_ClerkRows_agreement_29 : decode b_ClerkRows_agreement 29 = .ok (.iload_n 2, 1) := by decide +kernel
theorem d_ClerkRows_agreement_30 : decode b_ClerkRows_agreement 30 = .ok (.if_icmp .ne 7, 3) := by decide +kernel
theorem d_ClerkRows_agreement_33 : decode b_ClerkRows_agreement 33 = .ok (.ldc2_w 123, 3) := by decide +kernel
theorem d_ClerkRows_agreement_36 : decode b_ClerkRows_agreement 36 = .ok (.lreturn, 1) := by decide +kernel
theorem d_ClerkRows_agreement_37 : decode b_ClerkRows_agreement 37 = .ok (.lconst 0, 1) := by decide +kernel
theorem d_ClerkRows_agreement_38 : decode b_ClerkRows_agreement 38 = .ok (.lstore 4, 2) := by decide +kernel
theorem d_ClerkRows_agreement_40 : decode b_ClerkRows_agreement 40 = .ok (.lconst 0, 1) := by decide +kernel
theorem d_ClerkRows_agreement_41 : decode b_ClerkRows_agreement 41 = .ok (.lstore 6, 2) := by decide +kernel
theorem d_ClerkRows_agreement_43 : decode b_ClerkRows_agreement 43 = .ok (.aload_n 0, 1) := by decide +kernel
theorem d_ClerkRows_agreement_44 : decode b_ClerkRows_agreement 44 = .ok (.getfield 11, 3) := by decide +kernel
theorem d_ClerkRows_agreement_47 : decode b_ClerkRows_agreement 47 = .ok (.astore 8, 2) := by decide +kernel
theorem d_ClerkRows_agreement_49 : decode b_ClerkRows_agreement 49 = .ok (.aload 8, 2) := by decide +kernel
theorem d_ClerkRows_agreement_51 : decode b_ClerkRows_agreement 51 = .ok (.arraylength, 1) := by decide +kernel
theorem d_ClerkRows_agreement_52 : decode b_ClerkRows_agreement 52 = .ok (.istore 9, 2) := by decide +kernel
theorem d_ClerkRows_agreement_54 : decode b_ClerkRows_agreement 54 = .ok (.iconst 0, 1) := by decide +kernel
theorem d_ClerkRows_agreement_55 : decode b_ClerkRows_agreement 55 = .ok (.istore 10, 2) := by decide +kernel
theorem d_ClerkRows_agreement_57 : decode b_ClerkRows_agreement 57 = .ok (.iload 10, 2) := by decide +kernel
theorem d_ClerkRows_agreement_59 : decode b_ClerkRows_agreement 59 = .ok (.iload 9, 2) := by decide +kernel
theorem d_ClerkRows_agreement_61 : decode b_ClerkRows_agreement 61 = .ok (.if_icmp .ge 73, 3) := by decide +kernel
theorem d_ClerkRows_agreement_64 : decode b_ClerkRows_agreement 64 = .ok (.aload 8, 2) := by decide +kernel
theorem d_ClerkRows_agreement_66 : decode b_ClerkRows_agreement 66 = .ok (.iload 10, 2) := by decide +kernel
theorem d_ClerkRows_agreement_68 : decode b_ClerkRows_agreement 68 = .ok (.aaload, 1) := by decide +kernel
theorem d_ClerkRows_agreement_69 : decode b_ClerkRows_agreement 69 = .ok (.astore 11, 2) := by decide +kernel
theorem d_ClerkRows_agreement_71 : decode b_ClerkRows_agreement 71 = .ok (.aload 11, 2) := by decide +kernel
theorem d_ClerkRows_agreement_73 : decode b_ClerkRows_agreement 73 = .ok (.ifnonnull 6, 3) := by decide +kernel
theorem d_ClerkRows_agreement_76 : decode b_ClerkRows_agreement 76 = .ok (.goto 58, 3) := by decide +kernel
theorem d_ClerkRows_agreement_79 : decode b_ClerkRows_agreement 79 = .ok (.aload 11, 2) := by decide +kernel
theorem d_ClerkRows_agreement_81 : decode b_ClerkRows_agreement 81 = .ok (.iload_n 1, 1) := by decide +kernel
theorem d_ClerkRows_agreement_82 : decode b_ClerkRows_agreement 82 = .ok (.invokevirtual 125, 3) := by decide +kernel
theorem d_ClerkRows_agreement_85 : decode b_ClerkRows_agreement 85 = .ok (.istore 12, 2) := by decide +kernel
theorem d_ClerkRows_agreement_87 : decode b_ClerkRows_agreement 87 = .ok (.aload 11, 2) := by decide +kernel
theorem d_ClerkRows_agreement_89 : decode b_ClerkRows_agreement 89 = .ok (.iload_n 2, 1) := by decide +kernel
theorem d_ClerkRows_agreement_90 : decode b_ClerkRows_agreement 90 = .ok (.invokevirtual 125, 3) := by decide +kernel
theorem d_ClerkRows_agreement_93 : decode b_ClerkRows_agreement 93 = .ok (.istore 13, 2) := by decide +kernel
theorem d_ClerkRows_agreement_95 : decode b_ClerkRows_agreement 95 = .ok (.iload 12, 2) := by decide +kernel
theorem d_ClerkRows_agreement_97 : decode b_ClerkRows_agreement 97 = .ok (.ifCond .lt 31, 3) := by decide +kernel
theorem d_ClerkRows_agreement_100 : decode b_ClerkRows_agreement 100 = .ok (.iload 13, 2) := by decide +kernel
theorem d_ClerkRows_agreement_102 : decode b_ClerkRows_agreement 102 = .ok (.ifCond .lt 26, 3) := by decide +kernel
theorem d_ClerkRows_agreement_105 : decode b_ClerkRows_agreement 105 = .ok (.lload 4, 2) := by decide +kernel
theorem d_ClerkRows_agreement_107 : decode b_ClerkRows_agreement 107 = .ok (.lconst 1, 1) := by decide +kernel
theorem d_ClerkRows_agreement_108 : decode b_ClerkRows_agreement 108 = .ok (.ladd, 1) := by decide +kernel
theorem d_ClerkRows_agreement_109 : decode b_ClerkRows_agreement 109 = .ok (.lstore 4, 2) := by decide +kernel
theorem d_ClerkRows_agreement_111 : decode b_ClerkRows_agreement 111 = .ok (.lload 6, 2) := by decide +kernel
theorem d_ClerkRows_agreement_113 : decode b_ClerkRows_agreement 113 = .ok (.iload 12, 2) := by decide +kernel
theorem d_ClerkRows_agreement_115 : decode b_ClerkRows_agreement 115 = .ok (.iload 13, 2) := by decide +kernel
theorem d_ClerkRows_agreement_117 : decode b_ClerkRows_agreement 117 = .ok (.if_icmp .ne 7, 3) := by decide +kernel
theorem d_ClerkRows_agreement_120 : decode b_ClerkRows_agreement 120 = .ok (.lconst 1, 1) := by decide +kernel
theorem d_ClerkRows_agreement_121 : decode b_ClerkRows_agreement 121 = .ok (.goto 4, 3) := by decide +kernel
theorem d_ClerkRows_agreement_124 : decode b_ClerkRows_agreement 124 = .ok (.lconst 0, 1) := by decide +kernel
theorem d_ClerkRows_agreement_125 : decode b_ClerkRows_agreement 125 = .ok (.ladd, 1) := by decide +kernel
theorem d_ClerkRows_agreement_126 : decode b_ClerkRows_agreement 126 = .ok (.lstore 6, 2) := by decide +kernel
theorem d_ClerkRows_agreement_128 : decode b_ClerkRows_agreement 128 = .ok (.iinc 10 1, 3) := by decide +kernel
theorem d_ClerkRows_agreement_131 : decode b_ClerkRows_agreement 131 = .ok (.goto (-74), 3) := by decide +kernel
theorem d_ClerkRows_agreement_134 : decode b_ClerkRows_agreement 134 = .ok (.iload_n 3, 1) := by decide +kernel
theorem d_ClerkRows_agreement_135 : decode b_ClerkRows_agreement 135 = .ok (.iconst 1, 1) := by decide +kernel
theorem d_ClerkRows_agreement_136 : decode b_ClerkRows_agreement 136 = .ok (.if_icmp .ne 8, 3) := by decide +kernel
theorem d_ClerkRows_agreement_139 : decode b_ClerkRows_agreement 139 = .ok (.lload 4, 2) := by decide +kernel
theorem d_ClerkRows_agreement_141 : decode b_ClerkRows_agreement 141 = .ok (.goto 5, 3) := by decide +kernel
theorem d_ClerkRows_agreement_144 : decode b_ClerkRows_agreement 144 = .ok (.lload 6, 2) := by decide +kernel
theorem d_ClerkRows_agreement_146 : decode b_ClerkRows_agreement 146 = .ok (.lreturn, 1) := by decide +kernel
theorem d_ClerkRows_waiting_0 : decode b_ClerkRows_waiting 0 = .ok (.iconst 0, 1) := by decide +kernel
theorem d_ClerkRows_waiting_1 : decode b_ClerkRows_waiting 1 = .ok (.istore_n 1, 1) := by decide +kernel
theorem d_ClerkRows_waiting_2 : decode b_ClerkRows_waiting 2 = .ok (.aload_n 0, 1) := by decide +kernel
theorem d_ClerkRows_waiting_3 : decode b_ClerkRows_waiting 3 = .ok (.getfield 11, 3) := by decide +kernel
theorem d_ClerkRows_waiting_6 : decode b_ClerkRows_waiting 6 = .ok (.astore_n 2, 1) := by decide +kernel
theorem d_ClerkRows_waiting_7 : decode b_ClerkRows_waiting 7 = .ok (.aload_n 2, 1) := by decide +kernel
theorem d_ClerkRows_waiting_8 : decode b_ClerkRows_waiting 8 = .ok (.arraylength, 1) := by decide +kernel
theorem d_ClerkRows_waiting_9 : decode b_ClerkRows_waiting 9 = .ok (.istore_n 3, 1) := by decide +kernel
theorem d_ClerkRows_waiting_10 : decode b_ClerkRows_waiting 10 = .ok (.iconst 0, 1) := by decide +kernel
theorem d_ClerkRows_waiting_11 : decode b_ClerkRows_waiting 11 = .ok (.istore 4, 2) := by decide +kernel
theorem d_ClerkRows_waiting_13 : decode b_ClerkRows_waiting 13 = .ok (.iload 4, 2) := by decide +kernel
theorem d_ClerkRows_waiting_15 : decode b_ClerkRows_waiting 15 = .ok (.iload_n 3, 1) := by decide +kernel
theorem d_ClerkRows_waiting_16 : decode b_ClerkRows_waiting 16 = .ok (.if_icmp .ge 34, 3) := by decide +kernel
theorem d_ClerkRows_waiting_19 : decode b_ClerkRows_waiting 19 = .ok (.aload_n 2, 1) := by decide +kernel
theorem d_ClerkRows_waiting_20 : decode b_ClerkRows_waiting 20 = .ok (.iload 4, 2) := by decide +kernel
theorem d_ClerkRows_waiting_22 : decode b_ClerkRows_waiting 22 = .ok (.aaload, 1) := by decide +kernel
theorem d_ClerkRows_waiting_23 : decode b_ClerkRows_waiting 23 = .ok (.astore 5, 2) := by decide +kernel
theorem d_ClerkRows_waiting_25 : decode b_ClerkRows_waiting 25 = .ok (.aload 5, 2) := by decide +kernel
theorem d_ClerkRows_waiting_27 : decode b_ClerkRows_waiting 27 = .ok (.ifnonnull 6, 3) := by decide +kernel
theorem d_ClerkRows_waiting_30 : decode b_ClerkRows_waiting 30 = .ok (.goto 20, 3) := by decide +kernel
theorem d_ClerkRows_waiting_33 : decode b_ClerkRows_waiting 33 = .ok (.aload 5, 2) := by decide +kernel
theorem d_ClerkRows_waiting_35 : decode b_ClerkRows_waiting 35 = .ok (.invokevirtual 114, 3) := by decide +kernel
theorem d_ClerkRows_waiting_38 : decode b_ClerkRows_waiting 38 = .ok (.ifCond .ne 6, 3) := by decide +kernel
theorem d_ClerkRows_waiting_41 : decode b_ClerkRows_waiting 41 = .ok (.iinc 1 1, 3) := by decide +kernel
theorem d_ClerkRows_waiting_44 : decode b_ClerkRows_waiting 44 = .ok (.iinc 4 1, 3) := by decide +kernel
theorem d_ClerkRows_waiting_47 : decode b_ClerkRows_waiting 47 = .ok (.goto (-34), 3) := by decide +kernel
theorem d_ClerkRows_waiting_50 : decode b_ClerkRows_waiting 50 = .ok (.iload_n 1, 1) := by decide +kernel
theorem d_ClerkRows_waiting_51 : decode b_ClerkRows_waiting 51 = .ok (.ireturn, 1) := by decide +kernel
theorem d_ClerkRows_isWithin_0 : decode b_ClerkRows_isWithin 0 = .ok (.iload_n 0, 1) := by decide +kernel
theorem d_ClerkRows_isWithin_1 : decode b_ClerkRows_isWithin 1 = .ok (.ifCond .lt 12, 3) := by decide +kernel
theorem d_ClerkRows_isWithin_4 : decode b_ClerkRows_isWithin 4 = .ok (.iload_n 0, 1) := by decide +kernel
theorem d_ClerkRows_isWithin_5 : decode b_ClerkRows_isWithin 5 = .ok (.iload_n 1, 1) := by decide +kernel
theorem d_ClerkRows_isWithin_6 : decode b_ClerkRows_isWithin 6 = .ok (.if_icmp .gt 7, 3) := by decide +kernel
theorem d_ClerkRows_isWithin_9 : decode b_ClerkRows_isWithin 9 = .ok (.iconst 1, 1) := by decide +kernel
theorem d_ClerkRows_isWithin_10 : decode b_ClerkRows_isWithin 10 = .ok (.goto 4, 3) := by decide +kernel
theorem d_ClerkRows_isWithin_13 : decode b_ClerkRows_isWithin 13 = .ok (.iconst 0, 1) := by decide +kernel
theorem d_ClerkRows_isWithin_14 : decode b_ClerkRows_isWithin 14 = .ok (.ireturn, 1) := by decide +kernel
theorem d_ClerkRows_isTime_0 : decode b_ClerkRows_isTime 0 = .ok (.lload_n 1, 1) := by decide +kernel
theorem d_ClerkRows_isTime_1 : decode b_ClerkRows_isTime 1 = .ok (.aload_n 0, 1) := by decide +kernel
theorem d_ClerkRows_isTime_2 : decode b_ClerkRows_isTime 2 = .ok (.getfield 25, 3) := by decide +kernel
theorem d_ClerkRows_isTime_5 : decode b_ClerkRows_isTime 5 = .ok (.lcmp, 1) := by decide +kernel
theorem d_ClerkRows_isTime_6 : decode b_ClerkRows_isTime 6 = .ok (.ifCond .lt 15, 3) := by decide +kernel
theorem d_ClerkRows_isTime_9 : decode b_ClerkRows_isTime 9 = .ok (.lload_n 1, 1) := by decide +kernel
theorem d_ClerkRows_isTime_10 : decode b_ClerkRows_isTime 10 = .ok (.ldc2_w 129, 3) := by decide +kernel
theorem d_ClerkRows_isTime_13 : decode b_ClerkRows_isTime 13 = .ok (.lcmp, 1) := by decide +kernel
theorem d_ClerkRows_isTime_14 : decode b_ClerkRows_isTime 14 = .ok (.ifCond .gt 7, 3) := by decide +kernel
theorem d_ClerkRows_isTime_17 : decode b_ClerkRows_isTime 17 = .ok (.iconst 1, 1) := by decide +kernel
theorem d_ClerkRows_isTime_18 : decode b_ClerkRows_isTime 18 = .ok (.goto 4, 3) := by decide +kernel
theorem d_ClerkRows_isTime_21 : decode b_ClerkRows_isTime 21 = .ok (.iconst 0, 1) := by decide +kernel
theorem d_ClerkRows_isTime_22 : decode b_ClerkRows_isTime 22 = .ok (.ireturn, 1) := by decide +kernel
theorem d_ClerkRows_findClerk_0 : decode b_ClerkRows_findClerk 0 = .ok (.iload_n 1, 1) := by decide +kernel
theorem d_ClerkRows_findClerk_1 : decode b_ClerkRows_findClerk 1 = .ok (.ifCond .lt 18, 3) := by decide +kernel
theorem d_ClerkRows_findClerk_4 : decode b_ClerkRows_findClerk 4 = .ok (.iload_n 1, 1) := by decide +kernel
theorem d_ClerkRows_findClerk_5 : decode b_ClerkRows_findClerk 5 = .ok (.bipush 20, 2) := by decide +kernel
theorem d_ClerkRows_findClerk_7 : decode b_ClerkRows_findClerk 7 = .ok (.if_icmp .ge 12, 3) := by decide +kernel
theorem d_ClerkRows_findClerk_10 : decode b_ClerkRows_findClerk 10 = .ok (.aload_n 0, 1) := by decide +kernel
theorem d_ClerkRows_findClerk_11 : decode b_ClerkRows_findClerk 11 = .ok (.getfield 17, 3) := by decide +kernel
theorem d_ClerkRows_findClerk_14 : decode b_ClerkRows_findClerk 14 = .ok (.iload_n 1, 1) := by decide +kernel
theorem d_ClerkRows_findClerk_15 : decode b_ClerkRows_findClerk 15 = .ok (.aaload, 1) := by decide +kernel
theorem d_ClerkRows_findClerk_16 : decode b_ClerkRows_findClerk 16 = .ok (.goto 4, 3) := by decide +kernel
theorem d_ClerkRows_findClerk_19 : decode b_ClerkRows_findClerk 19 = .ok (.aconst_null, 1) := by decide +kernel
theorem d_ClerkRows_findClerk_20 : decode b_ClerkRows_findClerk 20 = .ok (.areturn, 1) := by decide +kernel
theorem d_ClerkRows_findPicture_0 : decode b_ClerkRows_findPicture 0 = .ok (.iload_n 1, 1) := by decide +kernel
theorem d_ClerkRows_findPicture_1 : decode b_ClerkRows_findPicture 1 = .ok (.iconst 1, 1) := by decide +kernel
theorem d_ClerkRows_findPicture_2 : decode b_ClerkRows_findPicture 2 = .ok (.if_icmp .lt 21, 3) := by decide +kernel
theorem d_ClerkRows_findPicture_5 : decode b_ClerkRows_findPicture 5 = .ok (.iload_n 1, 1) := by decide +kernel
theorem d_ClerkRows_findPicture_6 : decode b_ClerkRows_findPicture 6 = .ok (.sipush 300, 3) := by decide +kernel
theorem d_ClerkRows_findPicture_9 : decode b_ClerkRows_findPicture 9 = .ok (.if_icmp .gt 14, 3) := by decide +kernel
theorem d_ClerkRows_findPicture_12 : decode b_ClerkRows_findPicture 12 = .ok (.aload_n 0, 1) := by decide +kernel
theorem d_ClerkRows_findPicture_13 : decode b_ClerkRows_findPicture 13 = .ok (.getfield 11, 3) := by decide +kernel
theorem d_ClerkRows_findPicture_16 : decode b_ClerkRows_findPicture 16 = .ok (.iload_n 1, 1) := by decide +kernel
theorem d_ClerkRows_findPicture_17 : decode b_ClerkRows_findPicture 17 = .ok (.iconst 1, 1) := by decide +kernel
theorem d_ClerkRows_findPicture_18 : decode b_ClerkRows_findPicture 18 = .ok (.isub, 1) := by decide +kernel
theorem d_ClerkRows_findPicture_19 : decode b_ClerkRows_findPicture 19 = .ok (.aaload, 1) := by decide +kernel
theorem d_ClerkRows_findPicture_20 : decode b_ClerkRows_findPicture 20 = .ok (.goto 4, 3) := by decide +kernel
theorem d_ClerkRows_findPicture_23 : decode b_ClerkRows_findPicture 23 = .ok (.aconst_null, 1) := by decide +kernel
theorem d_ClerkRows_findPicture_24 : decode b_ClerkRows_findPicture 24 = .ok (.areturn, 1) := by decide +kernel
theorem d_ClerkRows_passTo_0 : decode b_ClerkRows_passTo 0 = .ok (.aload_n 0, 1) := by decide +kernel
theorem d_ClerkRows_passTo_1 : decode b_ClerkRows_passTo 1 = .ok (.lload_n 1, 1) := by decide +kernel
theorem d_ClerkRows_passTo_2 : decode b_ClerkRows_passTo 2 = .ok (.putfield 25, 3) := by decide +kernel
theorem d_ClerkRows_passTo_5 : decode b_ClerkRows_passTo 5 = .ok (.aload_n 0, 1) := by decide +kernel
theorem d_ClerkRows_passTo_6 : decode b_ClerkRows_passTo 6 = .ok (.getfield 11, 3) := by decide +kernel
theorem d_ClerkRows_passTo_9 : decode b_ClerkRows_passTo 9 = .ok (.astore_n 3, 1) := by decide +kernel
theorem d_ClerkRows_passTo_10 : decode b_ClerkRows_passTo 10 = .ok (.aload_n 3, 1) := by decide +kernel
theorem d_ClerkRows_passTo_11 : decode b_ClerkRows_passTo 11 = .ok (.arraylength, 1) := by decide +kernel
theorem d_ClerkRows_passTo_12 : decode b_ClerkRows_passTo 12 = .ok (.istore 4, 2) := by decide +kernel
theorem d_ClerkRows_passTo_14 : decode b_ClerkRows_passTo 14 = .ok (.iconst 0, 1) := by decide +kernel
theorem d_ClerkRows_passTo_15 : decode b_ClerkRows_passTo 15 = .ok (.istore 5, 2) := by decide +kernel
theorem d_ClerkRows_passTo_17 : decode b_ClerkRows_passTo 17 = .ok (.iload 5, 2) := by decide +kernel
theorem d_ClerkRows_passTo_19 : decode b_ClerkRows_passTo 19 = .ok (.iload 4, 2) := by decide +kernel
theorem d_ClerkRows_passTo_21 : decode b_ClerkRows_passTo 21 = .ok (.if_icmp .ge 57, 3) := by decide +kernel
theorem d_ClerkRows_passTo_24 : decode b_ClerkRows_passTo 24 = .ok (.aload_n 3, 1) := by decide +kernel
theorem d_ClerkRows_passTo_25 : decode b_ClerkRows_passTo 25 = .ok (.iload 5, 2) := by decide +kernel
theorem d_ClerkRows_passTo_27 : decode b_ClerkRows_passTo 27 = .ok (.aaload, 1) := by decide +kernel
theorem d_ClerkRows_passTo_28 : decode b_ClerkRows_passTo 28 = .ok (.astore 6, 2) := by decide +kernel
theorem d_ClerkRows_passTo_30 : decode b_ClerkRows_passTo 30 = .ok (.aload 6, 2) := by decide +kernel
theorem d_ClerkRows_passTo_32 : decode b_ClerkRows_passTo 32 = .ok (.ifnonnull 6, 3) := by decide +kernel
theorem d_ClerkRows_passTo_35 : decode b_ClerkRows_passTo 35 = .ok (.goto 43, 3) := by decide +kernel
theorem d_ClerkRows_passTo_38 : decode b_ClerkRows_passTo 38 = .ok (.aload 6, 2) := by decide +kernel
theorem d_ClerkRows_passTo_40 : decode b_ClerkRows_passTo 40 = .ok (.invokevirtual 114, 3) := by decide +kernel
theorem d_ClerkRows_passTo_43 : decode b_ClerkRows_passTo 43 = .ok (.ifCond .ne 29, 3) := by decide +kernel
theorem d_ClerkRows_passTo_46 : decode b_ClerkRows_passTo 46 = .ok (.aload 6, 2) := by decide +kernel
theorem d_ClerkRows_passTo_48 : decode b_ClerkRows_passTo 48 = .ok (.getfield 131, 3) := by decide +kernel
theorem d_ClerkRows_passTo_51 : decode b_ClerkRows_passTo 51 = .ok (.lload_n 1, 1) := by decide +kernel
theorem d_ClerkRows_passTo_52 : decode b_ClerkRows_passTo 52 = .ok (.lcmp, 1) := by decide +kernel
theorem d_ClerkRows_passTo_53 : decode b_ClerkRows_passTo 53 = .ok (.ifCond .ge 19, 3) := by decide +kernel
theorem d_ClerkRows_passTo_56 : decode b_ClerkRows_passTo 56 = .ok (.aload 6, 2) := by decide +kernel
theorem d_ClerkRows_passTo_58 : decode b_ClerkRows_passTo 58 = .ok (.iconst 4, 1) := by decide +kernel
theorem d_ClerkRows_passTo_59 : decode b_ClerkRows_passTo 59 = .ok (.putfield 134, 3) := by decide +kernel
theorem d_ClerkRows_passTo_62 : decode b_ClerkRows_passTo 62 = .ok (.aload_n 0, 1) := by decide +kernel
theorem d_ClerkRows_passTo_63 : decode b_ClerkRows_passTo 63 = .ok (.dup, 1) := by decide +kernel
theorem d_ClerkRows_passTo_64 : decode b_ClerkRows_passTo 64 = .ok (.getfield 29, 3) := by decide +kernel
theorem d_ClerkRows_passTo_67 : decode b_ClerkRows_passTo 67 = .ok (.iconst 1, 1) := by decide +kernel
theorem d_ClerkRows_passTo_68 : decode b_ClerkRows_passTo 68 = .ok (.iadd, 1) := by decide +kernel
theorem d_ClerkRows_passTo_69 : decode b_ClerkRows_passTo 69 = .ok (.putfield 29, 3) := by decide +kernel
theorem d_ClerkRows_passTo_72 : decode b_ClerkRows_passTo 72 = .ok (.iinc 5 1, 3) := by decide +kernel
theorem d_ClerkRows_passTo_75 : decode b_ClerkRows_passTo 75 = .ok (.goto (-58), 3) := by decide +kernel
theorem d_ClerkRows_passTo_78 : decode b_ClerkRows_passTo 78 = .ok (.return_, 1) := by decide +kernel
theorem d_ClerkRows_findGiven_0 : decode b_ClerkRows_findGiven 0 = .ok (.aconst_null, 1) := by decide +kernel
theorem d_ClerkRows_findGiven_1 : decode b_ClerkRows_findGiven 1 = .ok (.astore_n 2, 1) := by decide +kernel
theorem d_ClerkRows_findGiven_2 : decode b_ClerkRows_findGiven 2 = .ok (.aload_n 0, 1) := by decide +kernel
theorem d_ClerkRows_findGiven_3 : decode b_ClerkRows_findGiven 3 = .ok (.getfield 11, 3) := by decide +kernel
theorem d_ClerkRows_findGiven_6 : decode b_ClerkRows_findGiven 6 = .ok (.astore_n 3, 1) := by decide +kernel
theorem d_ClerkRows_findGiven_7 : decode b_ClerkRows_findGiven 7 = .ok (.aload_n 3, 1) := by decide +kernel
theorem d_ClerkRows_findGiven_8 : decode b_ClerkRows_findGiven 8 = .ok (.arraylength, 1) := by decide +kernel
theorem d_ClerkRows_findGiven_9 : decode b_ClerkRows_findGiven 9 = .ok (.istore 4, 2) := by decide +kernel
theorem d_ClerkRows_findGiven_11 : decode b_ClerkRows_findGiven 11 = .ok (.iconst 0, 1) := by decide +kernel
theorem d_ClerkRows_findGiven_12 : decode b_ClerkRows_findGiven 12 = .ok (.istore 5, 2) := by decide +kernel
theorem d_ClerkRows_findGiven_14 : decode b_ClerkRows_findGiven 14 = .ok (.iload 5, 2) := by decide +kernel
theorem d_ClerkRows_findGiven_16 : decode b_ClerkRows_findGiven 16 = .ok (.iload 4, 2) := by decide +kernel
theorem d_ClerkRows_findGiven_18 : decode b_ClerkRows_findGiven 18 = .ok (.if_icmp .ge 52, 3) := by decide +kernel
theorem d_ClerkRows_findGiven_21 : decode b_ClerkRows_findGiven 21 = .ok (.aload_n 3, 1) := by decide +kernel
theorem d_ClerkRows_findGiven_22 : decode b_ClerkRows_findGiven 22 = .ok (.iload 5, 2) := by decide +kernel
theorem d_ClerkRows_findGiven_24 : decode b_ClerkRows_findGiven 24 = .ok (.aaload, 1) := by decide +kernel
theorem d_ClerkRows_findGiven_25 : decode b_ClerkRows_findGiven 25 = .ok (.astore 6, 2) := by decide +kernel
theorem d_ClerkRows_findGiven_27 : decode b_ClerkRows_findGiven 27 = .ok (.aload 6, 2) := by decide +kernel
theorem d_ClerkRows_findGiven_29 : decode b_ClerkRows_findGiven 29 = .ok (.ifnonnull 6, 3) := by decide +kernel
theorem d_ClerkRows_findGiven_32 : decode b_ClerkRows_findGiven 32 = .ok (.goto 38, 3) := by decide +kernel
theorem d_ClerkRows_findGiven_35 : decode b_ClerkRows_findGiven 35 = .ok (.aload_n 2, 1) := by decide +kernel
theorem d_ClerkRows_findGiven_36 : decode b_ClerkRows_findGiven 36 = .ok (.ifnull 16, 3) := by decide +kernel
theorem d_ClerkRows_findGiven_39 : decode b_ClerkRows_findGiven 39 = .ok (.aload 6, 2) := by decide +kernel
theorem d_ClerkRows_findGiven_41 : decode b_ClerkRows_findGiven 41 = .ok (.getfield 131, 3) := by decide +kernel
theorem d_ClerkRows_findGiven_44 : decode b_ClerkRows_findGiven 44 = .ok (.aload_n 2, 1) := by decide +kernel
theorem d_ClerkRows_findGiven_45 : decode b_ClerkRows_findGiven 45 = .ok (.getfield 131, 3) := by decide +kernel
theorem d_ClerkRows_findGiven_48 : decode b_ClerkRows_findGiven 48 = .ok (.lcmp, 1) := by decide +kernel
theorem d_ClerkRows_findGiven_49 : decode b_ClerkRows_findGiven 49 = .ok (.ifCond .ge 15, 3) := by decide +kernel
theorem d_ClerkRows_findGiven_52 : decode b_ClerkRows_findGiven 52 = .ok (.aload 6, 2) := by decide +kernel
theorem d_ClerkRows_findGiven_54 : decode b_ClerkRows_findGiven 54 = .ok (.aload_n 1, 1) := by decide +kernel
theorem d_ClerkRows_findGiven_55 : decode b_ClerkRows_findGiven 55 = .ok (.invokevirtual 137, 3) := by decide +kernel
theorem d_ClerkRows_findGiven_58 : decode b_ClerkRows_findGiven 58 = .ok (.ifCond .eq 6, 3) := by decide +kernel
theorem d_ClerkRows_findGiven_61 : decode b_ClerkRows_findGiven 61 = .ok (.aload 6, 2) := by decide +kernel
theorem d_ClerkRows_findGiven_63 : decode b_ClerkRows_findGiven 63 = .ok (.astore_n 2, 1) := by decide +kernel
theorem d_ClerkRows_findGiven_64 : decode b_ClerkRows_findGiven 64 = .ok (.iinc 5 1, 3) := by decide +kernel
theorem d_ClerkRows_findGiven_67 : decode b_ClerkRows_findGiven 67 = .ok (.goto (-53), 3) := by decide +kernel
theorem d_ClerkRows_findGiven_70 : decode b_ClerkRows_findGiven 70 = .ok (.aload_n 2, 1) := by decide +kernel
theorem d_ClerkRows_findGiven_71 : decode b_ClerkRows_findGiven 71 = .ok (.areturn, 1) := by decide +kernel
theorem d_Clerk_init_0 : decode b_Clerk_init 0 = .ok (.aload_n 0, 1) := by decide +kernel
theorem d_Clerk_init_1 : decode b_Clerk_init 1 = .ok (.invokespecial 1, 3) := by decide +kernel
theorem d_Clerk_init_4 : decode b_Clerk_init 4 = .ok (.aload_n 0, 1) := by decide +kernel
theorem d_Clerk_init_5 : decode b_Clerk_init 5 = .ok (.iconst 0, 1) := by decide +kernel
theorem d_Clerk_init_6 : decode b_Clerk_init 6 = .ok (.putfield 7, 3) := by decide +kernel
theorem d_Clerk_init_9 : decode b_Clerk_init 9 = .ok (.aload_n 0, 1) := by decide +kernel
theorem d_Clerk_init_10 : decode b_Clerk_init 10 = .ok (.iconst 0, 1) := by decide +kernel
theorem d_Clerk_init_11 : decode b_Clerk_init 11 = .ok (.putfield 13, 3) := by decide +kernel
theorem d_Clerk_init_14 : decode b_Clerk_init 14 = .ok (.aload_n 0, 1) := by decide +kernel
theorem d_Clerk_init_15 : decode b_Clerk_init 15 = .ok (.iconst 0, 1) := by decide +kernel
theorem d_Clerk_init_16 : decode b_Clerk_init 16 = .ok (.putfield 17, 3) := by decide +kernel
theorem d_Clerk_init_19 : decode b_Clerk_init 19 = .ok (.aload_n 0, 1) := by decide +kernel
theorem d_Clerk_init_20 : decode b_Clerk_init 20 = .ok (.aconst_null, 1) := by decide +kernel
theorem d_Clerk_init_21 : decode b_Clerk_init 21 = .ok (.putfield 20, 3) := by decide +kernel
theorem d_Clerk_init_24 : decode b_Clerk_init 24 = .ok (.aload_n 0, 1) := by decide +kernel
theorem d_Clerk_init_25 : decode b_Clerk_init 25 = .ok (.iload_n 1, 1) := by decide +kernel
theorem d_Clerk_init_26 : decode b_Clerk_init 26 = .ok (.putfield 24, 3) := by decide +kernel
theorem d_Clerk_init_29 : decode b_Clerk_init 29 = .ok (.return_, 1) := by decide +kernel
theorem d_Turn_init_0 : decode b_Turn_init 0 = .ok (.aload_n 0, 1) := by decide +kernel
theorem d_Turn_init_1 : decode b_Turn_init 1 = .ok (.invokespecial 3, 3) := by decide +kernel
theorem d_Turn_init_4 : decode b_Turn_init 4 = .ok (.aload_n 0, 1) := by decide +kernel
theorem d_Turn_init_5 : decode b_Turn_init 5 = .ok (.iconst (-1), 1) := by decide +kernel
theorem d_Turn_init_6 : decode b_Turn_init 6 = .ok (.putfield 9, 3) := by decide +kernel
theorem d_Turn_init_9 : decode b_Turn_init 9 = .ok (.aload_n 0, 1) := by decide +kernel
theorem d_Turn_init_10 : decode b_Turn_init 10 = .ok (.iload_n 1, 1) := by decide +kernel
theorem d_Turn_init_11 : decode b_Turn_init 11 = .ok (.putfield 15, 3) := by decide +kernel
theorem d_Turn_init_14 : decode b_Turn_init 14 = .ok (.aload_n 0, 1) := by decide +kernel
theorem d_Turn_init_15 : decode b_Turn_init 15 = .ok (.aload_n 2, 1) := by decide +kernel
theorem d_Turn_init_16 : decode b_Turn_init 16 = .ok (.getfield 18, 3) := by decide +kernel
theorem d_Turn_init_19 : decode b_Turn_init 19 = .ok (.putfield 23, 3) := by decide +kernel
theorem d_Turn_init_22 : decode b_Turn_init 22 = .ok (.aload_n 0, 1) := by decide +kernel
theorem d_Turn_init_23 : decode b_Turn_init 23 = .ok (.aload_n 2, 1) := by decide +kernel
theorem d_Turn_init_24 : decode b_Turn_init 24 = .ok (.getfield 26, 3) := by decide +kernel
theorem d_Turn_init_27 : decode b_Turn_init 27 = .ok (.putfield 29, 3) := by decide +kernel
theorem d_Turn_init_30 : decode b_Turn_init 30 = .ok (.aload_n 0, 1) := by decide +kernel
theorem d_Turn_init_31 : decode b_Turn_init 31 = .ok (.aload_n 3, 1) := by decide +kernel
theorem d_Turn_init_32 : decode b_Turn_init 32 = .ok (.putfield 30, 3) := by decide +kernel
theorem d_Turn_init_35 : decode b_Turn_init 35 = .ok (.return_, 1) := by decide +kernel
theorem d_Picture_init_0 : decode b_Picture_init 0 = .ok (.aload_n 0, 1) := by decide +kernel
theorem d_Picture_init_1 : decode b_Picture_init 1 = .ok (.invokespecial 3, 3) := by decide +kernel
theorem d_Picture_init_4 : decode b_Picture_init 4 = .ok (.aload_n 0, 1) := by decide +kernel
theorem d_Picture_init_5 : decode b_Picture_init 5 = .ok (.iconst 2, 1) := by decide +kernel
theorem d_Picture_init_6 : decode b_Picture_init 6 = .ok (.putfield 9, 3) := by decide +kernel
theorem d_Picture_init_9 : decode b_Picture_init 9 = .ok (.aload_n 0, 1) := by decide +kernel
theorem d_Picture_init_10 : decode b_Picture_init 10 = .ok (.iconst 0, 1) := by decide +kernel
theorem d_Picture_init_11 : decode b_Picture_init 11 = .ok (.putfield 15, 3) := by decide +kernel
theorem d_Picture_init_14 : decode b_Picture_init 14 = .ok (.aload_n 0, 1) := by decide +kernel
theorem d_Picture_init_15 : decode b_Picture_init 15 = .ok (.iconst 0, 1) := by decide +kernel
theorem d_Picture_init_16 : decode b_Picture_init 16 = .ok (.putfield 18, 3) := by decide +kernel
theorem d_Picture_init_19 : decode b_Picture_init 19 = .ok (.aload_n 0, 1) := by decide +kernel
theorem d_Picture_init_20 : decode b_Picture_init 20 = .ok (.iconst 0, 1) := by decide +kernel
theorem d_Picture_init_21 : decode b_Picture_init 21 = .ok (.putfield 21, 3) := by decide +kernel
theorem d_Picture_init_24 : decode b_Picture_init 24 = .ok (.aload_n 0, 1) := by decide +kernel
theorem d_Picture_init_25 : decode b_Picture_init 25 = .ok (.aconst_null, 1) := by decide +kernel
theorem d_Picture_init_26 : decode b_Picture_init 26 = .ok (.putfield 24, 3) := by decide +kernel
theorem d_Picture_init_29 : decode b_Picture_init 29 = .ok (.aload_n 0, 1) := by decide +kernel
theorem d_Picture_init_30 : decode b_Picture_init 30 = .ok (.iload_n 1, 1) := by decide +kernel
theorem d_Picture_init_31 : decode b_Picture_init 31 = .ok (.putfield 28, 3) := by decide +kernel
theorem d_Picture_init_34 : decode b_Picture_init 34 = .ok (.aload_n 0, 1) := by decide +kernel
theorem d_Picture_init_35 : decode b_Picture_init 35 = .ok (.lload_n 2, 1) := by decide +kernel
theorem d_Picture_init_36 : decode b_Picture_init 36 = .ok (.putfield 31, 3) := by decide +kernel
theorem d_Picture_init_39 : decode b_Picture_init 39 = .ok (.aload_n 0, 1) := by decide +kernel
theorem d_Picture_init_40 : decode b_Picture_init 40 = .ok (.iload 4, 2) := by decide +kernel
theorem d_Picture_init_42 : decode b_Picture_init 42 = .ok (.putfield 35, 3) := by decide +kernel
theorem d_Picture_init_45 : decode b_Picture_init 45 = .ok (.return_, 1) := by decide +kernel
theorem d_Picture_hasEnded_0 : decode b_Picture_hasEnded 0 = .ok (.aload_n 0, 1) := by decide +kernel
theorem d_Picture_hasEnded_1 : decode b_Picture_hasEnded 1 = .ok (.getfield 18, 3) := by decide +kernel
theorem d_Picture_hasEnded_4 : decode b_Picture_hasEnded 4 = .ok (.ifCond .eq 7, 3) := by decide +kernel
theorem d_Picture_hasEnded_7 : decode b_Picture_hasEnded 7 = .ok (.iconst 1, 1) := by decide +kernel
theorem d_Picture_hasEnded_8 : decode b_Picture_hasEnded 8 = .ok (.goto 4, 3) := by decide +kernel
theorem d_Picture_hasEnded_11 : decode b_Picture_hasEnded 11 = .ok (.iconst 0, 1) := by decide +kernel
theorem d_Picture_hasEnded_12 : decode b_Picture_hasEnded 12 = .ok (.ireturn, 1) := by decide +kernel
theorem d_Picture_findState_0 : decode b_Picture_findState 0 = .ok (.aload_n 0, 1) := by decide +kernel
theorem d_Picture_findState_1 : decode b_Picture_findState 1 = .ok (.invokevirtual 38, 3) := by decide +kernel
theorem d_Picture_findState_4 : decode b_Picture_findState 4 = .ok (.ifCond .eq 8, 3) := by decide +kernel
theorem d_Picture_findState_7 : decode b_Picture_findState 7 = .ok (.aload_n 0, 1) := by decide +kernel
theorem d_Picture_findState_8 : decode b_Picture_findState 8 = .ok (.getfield 18, 3) := by decide +kernel
theorem d_Picture_findState_11 : decode b_Picture_findState 11 = .ok (.ireturn, 1) := by decide +kernel
theorem d_Picture_findState_12 : decode b_Picture_findState 12 = .ok (.aload_n 0, 1) := by decide +kernel
theorem d_Picture_findState_13 : decode b_Picture_findState 13 = .ok (.invokevirtual 42, 3) := by decide +kernel
theorem d_Picture_findState_16 : decode b_Picture_findState 16 = .ok (.ifCond .eq 7, 3) := by decide +kernel
theorem d_Picture_findState_19 : decode b_Picture_findState 19 = .ok (.iconst 0, 1) := by decide +kernel
theorem d_Picture_findState_20 : decode b_Picture_findState 20 = .ok (.goto 4, 3) := by decide +kernel
theorem d_Picture_findState_23 : decode b_Picture_findState 23 = .ok (.iconst 1, 1) := by decide +kernel
theorem d_Picture_findState_24 : decode b_Picture_findState 24 = .ok (.ireturn, 1) := by decide +kernel
theorem d_Picture_isFreeFor_0 : decode b_Picture_isFreeFor 0 = .ok (.aload_n 0, 1) := by decide +kernel
theorem d_Picture_isFreeFor_1 : decode b_Picture_isFreeFor 1 = .ok (.invokevirtual 38, 3) := by decide +kernel
theorem d_Picture_isFreeFor_4 : decode b_Picture_isFreeFor 4 = .ok (.ifCond .ne 33, 3) := by decide +kernel
theorem d_Picture_isFreeFor_7 : decode b_Picture_isFreeFor 7 = .ok (.aload_n 0, 1) := by decide +kernel
theorem d_Picture_isFreeFor_8 : decode b_Picture_isFreeFor 8 = .ok (.getfield 35, 3) := by decide +kernel
theorem d_Picture_isFreeFor_11 : decode b_Picture_isFreeFor 11 = .ok (.aload_n 1, 1) := by decide +kernel
theorem d_Picture_isFreeFor_12 : decode b_Picture_isFreeFor 12 = .ok (.getfield 45, 3) := by decide +kernel
theorem d_Picture_isFreeFor_15 : decode b_Picture_isFreeFor 15 = .ok (.if_icmp .gt 22, 3) := by decide +kernel
theorem d_Picture_isFreeFor_18 : decode b_Picture_isFreeFor 18 = .ok (.aload_n 0, 1) := by decide +kernel
theorem d_Picture_isFreeFor_19 : decode b_Picture_isFreeFor 19 = .ok (.invokevirtual 42, 3) := by decide +kernel
theorem d_Picture_isFreeFor_22 : decode b_Picture_isFreeFor 22 = .ok (.ifCond .eq 15, 3) := by decide +kernel
theorem d_Picture_isFreeFor_25 : decode b_Picture_isFreeFor 25 = .ok (.aload_n 0, 1) := by decide +kernel
theorem d_Picture_isFreeFor_26 : decode b_Picture_isFreeFor 26 = .ok (.aload_n 1, 1) := by decide +kernel
theorem d_Picture_isFreeFor_27 : decode b_Picture_isFreeFor 27 = .ok (.invokevirtual 48, 3) := by decide +kernel
theorem d_Picture_isFreeFor_30 : decode b_Picture_isFreeFor 30 = .ok (.ifCond .ne 7, 3) := by decide +kernel
theorem d_Picture_isFreeFor_33 : decode b_Picture_isFreeFor 33 = .ok (.iconst 1, 1) := by decide +kernel
theorem d_Picture_isFreeFor_34 : decode b_Picture_isFreeFor 34 = .ok (.goto 4, 3) := by decide +kernel
theorem d_Picture_isFreeFor_37 : decode b_Picture_isFreeFor 37 = .ok (.iconst 0, 1) := by decide +kernel
theorem d_Picture_isFreeFor_38 : decode b_Picture_isFreeFor 38 = .ok (.ireturn, 1) := by decide +kernel
theorem d_Picture_addTurn_0 : decode b_Picture_addTurn 0 = .ok (.aload_n 0, 1) := by decide +kernel
theorem d_Picture_addTurn_1 : decode b_Picture_addTurn 1 = .ok (.new 52, 3) := by decide +kernel
theorem d_Picture_addTurn_4 : decode b_Picture_addTurn 4 = .ok (.dup, 1) := by decide +kernel
theorem d_Picture_addTurn_5 : decode b_Picture_addTurn 5 = .ok (.aload_n 0, 1) := by decide +kernel
theorem d_Picture_addTurn_6 : decode b_Picture_addTurn 6 = .ok (.getfield 28, 3) := by decide +kernel
theorem d_Picture_addTurn_9 : decode b_Picture_addTurn 9 = .ok (.aload_n 1, 1) := by decide +kernel
theorem d_Picture_addTurn_10 : decode b_Picture_addTurn 10 = .ok (.aload_n 0, 1) := by decide +kernel
theorem d_Picture_addTurn_11 : decode b_Picture_addTurn 11 = .ok (.getfield 24, 3) := by decide +kernel
theorem d_Picture_addTurn_14 : decode b_Picture_addTurn 14 = .ok (.invokespecial 54, 3) := by decide +kernel
theorem d_Picture_addTurn_17 : decode b_Picture_addTurn 17 = .ok (.putfield 24, 3) := by decide +kernel
theorem d_Picture_addTurn_20 : decode b_Picture_addTurn 20 = .ok (.aload_n 0, 1) := by decide +kernel
theorem d_Picture_addTurn_21 : decode b_Picture_addTurn 21 = .ok (.getfield 24, 3) := by decide +kernel
theorem d_Picture_addTurn_24 : decode b_Picture_addTurn 24 = .ok (.areturn, 1) := by decide +kernel
theorem d_Picture_takeEntry_0 : decode b_Picture_takeEntry 0 = .ok (.aload_n 0, 1) := by decide +kernel
theorem d_Picture_takeEntry_1 : decode b_Picture_takeEntry 1 = .ok (.iload_n 2, 1) := by decide +kernel
theorem d_Picture_takeEntry_2 : decode b_Picture_takeEntry 2 = .ok (.invokevirtual 57, 3) := by decide +kernel
theorem d_Picture_takeEntry_5 : decode b_Picture_takeEntry 5 = .ok (.istore_n 3, 1) := by decide +kernel
theorem d_Picture_takeEntry_6 : decode b_Picture_takeEntry 6 = .ok (.aload_n 1, 1) := by decide +kernel
theorem d_Picture_takeEntry_7 : decode b_Picture_takeEntry 7 = .ok (.iload_n 2, 1) := by decide +kernel
theorem d_Picture_takeEntry_8 : decode b_Picture_takeEntry 8 = .ok (.putfield 61, 3) := by decide +kernel
theorem d_Picture_takeEntry_11 : decode b_Picture_takeEntry 11 = .ok (.aload_n 0, 1) := by decide +kernel
theorem d_Picture_takeEntry_12 : decode b_Picture_takeEntry 12 = .ok (.dup, 1) := by decide +kernel
theorem d_Picture_takeEntry_13 : decode b_Picture_takeEntry 13 = .ok (.getfield 15, 3) := by decide +kernel
theorem d_Picture_takeEntry_16 : decode b_Picture_takeEntry 16 = .ok (.iconst 1, 1) := by decide +kernel
theorem d_Picture_takeEntry_17 : decode b_Picture_takeEntry 17 = .ok (.iadd, 1) := by decide +kernel
theorem d_Picture_takeEntry_18 : decode b_Picture_takeEntry 18 = .ok (.putfield 15, 3) := by decide +kernel
theorem d_Picture_takeEntry_21 : decode b_Picture_takeEntry 21 = .ok (.aload_n 0, 1) := by decide +kernel
theorem d_Picture_takeEntry_22 : decode b_Picture_takeEntry 22 = .ok (.invokevirtual 38, 3) := by decide +kernel
theorem d_Picture_takeEntry_25 : decode b_Picture_takeEntry 25 = .ok (.ifCond .eq 4, 3) := by decide +kernel
theorem d_Picture_takeEntry_28 : decode b_Picture_takeEntry 28 = .ok (.return_, 1) := by decide +kernel
theorem d_Picture_takeEntry_29 : decode b_Picture_takeEntry 29 = .ok (.iload_n 3, 1) := by decide +kernel
theorem d_Picture_takeEntry_30 : decode b_Picture_takeEntry 30 = .ok (.ifCond .eq 11, 3) := by decide +kernel
theorem d_Picture_takeEntry_33 : decode b_Picture_takeEntry 33 = .ok (.aload_n 0, 1) := by decide +kernel
theorem d_Picture_takeEntry_34 : decode b_Picture_takeEntry 34 = .ok (.iload_n 2, 1) := by decide +kernel
theorem d_Picture_takeEntry_35 : decode b_Picture_takeEntry 35 = .ok (.invokevirtual 64, 3) := by decide +kernel
theorem d_Picture_takeEntry_38 : decode b_Picture_takeEntry 38 = .ok (.goto 32, 3) := by decide +kernel
theorem d_Picture_takeEntry_41 : decode b_Picture_takeEntry 41 = .ok (.aload_n 0, 1) := by decide +kernel
theorem d_Picture_takeEntry_42 : decode b_Picture_takeEntry 42 = .ok (.getfield 15, 3) := by decide +kernel
theorem d_Picture_takeEntry_45 : decode b_Picture_takeEntry 45 = .ok (.iconst 2, 1) := by decide +kernel
theorem d_Picture_takeEntry_46 : decode b_Picture_takeEntry 46 = .ok (.if_icmp .ne 11, 3) := by decide +kernel
theorem d_Picture_takeEntry_49 : decode b_Picture_takeEntry 49 = .ok (.aload_n 0, 1) := by decide +kernel
theorem d_Picture_takeEntry_50 : decode b_Picture_takeEntry 50 = .ok (.iconst 3, 1) := by decide +kernel
theorem d_Picture_takeEntry_51 : decode b_Picture_takeEntry 51 = .ok (.putfield 9, 3) := by decide +kernel
theorem d_Picture_takeEntry_54 : decode b_Picture_takeEntry 54 = .ok (.goto 16, 3) := by decide +kernel
theorem d_Picture_takeEntry_57 : decode b_Picture_takeEntry 57 = .ok (.aload_n 0, 1) := by decide +kernel
theorem d_Picture_takeEntry_58 : decode b_Picture_takeEntry 58 = .ok (.getfield 15, 3) := by decide +kernel
theorem d_Picture_takeEntry_61 : decode b_Picture_takeEntry 61 = .ok (.iconst 2, 1) := by decide +kernel
theorem d_Picture_takeEntry_62 : decode b_Picture_takeEntry 62 = .ok (.if_icmp .le 8, 3) := by decide +kernel
theorem d_Picture_takeEntry_65 : decode b_Picture_takeEntry 65 = .ok (.aload_n 0, 1) := by decide +kernel
theorem d_Picture_takeEntry_66 : decode b_Picture_takeEntry 66 = .ok (.iconst 3, 1) := by decide +kernel
theorem d_Picture_takeEntry_67 : decode b_Picture_takeEntry 67 = .ok (.putfield 18, 3) := by decide +kernel
theorem d_Picture_takeEntry_70 : decode b_Picture_takeEntry 70 = .ok (.return_, 1) := by decide +kernel
theorem d_Picture_findEntry_0 : decode b_Picture_findEntry 0 = .ok (.aload_n 0, 1) := by decide +kernel
theorem d_Picture_findEntry_1 : decode b_Picture_findEntry 1 = .ok (.getfield 24, 3) := by decide +kernel
theorem d_Picture_findEntry_4 : decode b_Picture_findEntry 4 = .ok (.astore_n 2, 1) := by decide +kernel
theorem d_Picture_findEntry_5 : decode b_Picture_findEntry 5 = .ok (.aload_n 2, 1) := by decide +kernel
theorem d_Picture_findEntry_6 : decode b_Picture_findEntry 6 = .ok (.ifnull 24, 3) := by decide +kernel
theorem d_Picture_findEntry_9 : decode b_Picture_findEntry 9 = .ok (.aload_n 2, 1) := by decide +kernel
theorem d_Picture_findEntry_10 : decode b_Picture_findEntry 10 = .ok (.getfield 68, 3) := by decide +kernel
theorem d_Picture_findEntry_13 : decode b_Picture_findEntry 13 = .ok (.iload_n 1, 1) := by decide +kernel
theorem d_Picture_findEntry_14 : decode b_Picture_findEntry 14 = .ok (.if_icmp .ne 8, 3) := by decide +kernel
theorem d_Picture_findEntry_17 : decode b_Picture_findEntry 17 = .ok (.aload_n 2, 1) := by decide +kernel
theorem d_Picture_findEntry_18 : decode b_Picture_findEntry 18 = .ok (.getfield 61, 3) := by decide +kernel
theorem d_Picture_findEntry_21 : decode b_Picture_findEntry 21 = .ok (.ireturn, 1) := by decide +kernel
theorem d_Picture_findEntry_22 : decode b_Picture_findEntry 22 = .ok (.aload_n 2, 1) := by decide +kernel
theorem d_Picture_findEntry_23 : decode b_Picture_findEntry 23 = .ok (.getfield 71, 3) := by decide +kernel
theorem d_Picture_findEntry_26 : decode b_Picture_findEntry 26 = .ok (.astore_n 2, 1) := by decide +kernel
theorem d_Picture_findEntry_27 : decode b_Picture_findEntry 27 = .ok (.goto (-22), 3) := by decide +kernel
theorem d_Picture_findEntry_30 : decode b_Picture_findEntry 30 = .ok (.iconst (-1), 1) := by decide +kernel
theorem d_Picture_findEntry_31 : decode b_Picture_findEntry 31 = .ok (.ireturn, 1) := by decide +kernel
theorem d_Picture_endAlike_0 : decode b_Picture_endAlike 0 = .ok (.iload_n 1, 1) := by decide +kernel
theorem d_Picture_endAlike_1 : decode b_Picture_endAlike 1 = .ok (.ifCond .ne 11, 3) := by decide +kernel
theorem d_Picture_endAlike_4 : decode b_Picture_endAlike 4 = .ok (.aload_n 0, 1) := by decide +kernel
theorem d_Picture_endAlike_5 : decode b_Picture_endAlike 5 = .ok (.iconst 3, 1) := by decide +kernel
theorem d_Picture_endAlike_6 : decode b_Picture_endAlike 6 = .ok (.putfield 18, 3) := by decide +kernel
theorem d_Picture_endAlike_9 : decode b_Picture_endAlike 9 = .ok (.goto 13, 3) := by decide +kernel
theorem d_Picture_endAlike_12 : decode b_Picture_endAlike 12 = .ok (.aload_n 0, 1) := by decide +kernel
theorem d_Picture_endAlike_13 : decode b_Picture_endAlike 13 = .ok (.iconst 2, 1) := by decide +kernel
theorem d_Picture_endAlike_14 : decode b_Picture_endAlike 14 = .ok (.putfield 18, 3) := by decide +kernel
theorem d_Picture_endAlike_17 : decode b_Picture_endAlike 17 = .ok (.aload_n 0, 1) := by decide +kernel
theorem d_Picture_endAlike_18 : decode b_Picture_endAlike 18 = .ok (.iload_n 1, 1) := by decide +kernel
theorem d_Picture_endAlike_19 : decode b_Picture_endAlike 19 = .ok (.putfield 21, 3) := by decide +kernel
theorem d_Picture_endAlike_22 : decode b_Picture_endAlike 22 = .ok (.return_, 1) := by decide +kernel
theorem d_Picture_hasEntry_0 : decode b_Picture_hasEntry 0 = .ok (.aload_n 0, 1) := by decide +kernel
theorem d_Picture_hasEntry_1 : decode b_Picture_hasEntry 1 = .ok (.getfield 24, 3) := by decide +kernel
theorem d_Picture_hasEntry_4 : decode b_Picture_hasEntry 4 = .ok (.astore_n 2, 1) := by decide +kernel
theorem d_Picture_hasEntry_5 : decode b_Picture_hasEntry 5 = .ok (.aload_n 2, 1) := by decide +kernel
theorem d_Picture_hasEntry_6 : decode b_Picture_hasEntry 6 = .ok (.ifnull 21, 3) := by decide +kernel
theorem d_Picture_hasEntry_9 : decode b_Picture_hasEntry 9 = .ok (.aload_n 2, 1) := by decide +kernel
theorem d_Picture_hasEntry_10 : decode b_Picture_hasEntry 10 = .ok (.getfield 61, 3) := by decide +kernel
theorem d_Picture_hasEntry_13 : decode b_Picture_hasEntry 13 = .ok (.iload_n 1, 1) := by decide +kernel
theorem d_Picture_hasEntry_14 : decode b_Picture_hasEntry 14 = .ok (.if_icmp .ne 5, 3) := by decide +kernel
theorem d_Picture_hasEntry_17 : decode b_Picture_hasEntry 17 = .ok (.iconst 1, 1) := by decide +kernel
theorem d_Picture_hasEntry_18 : decode b_Picture_hasEntry 18 = .ok (.ireturn, 1) := by decide +kernel
theorem d_Picture_hasEntry_19 : decode b_Picture_hasEntry 19 = .ok (.aload_n 2, 1) := by decide +kernel
theorem d_Picture_hasEntry_20 : decode b_Picture_hasEntry 20 = .ok (.getfield 71, 3) := by decide +kernel
theorem d_Picture_hasEntry_23 : decode b_Picture_hasEntry 23 = .ok (.astore_n 2, 1) := by decide +kernel
theorem d_Picture_hasEntry_24 : decode b_Picture_hasEntry 24 = .ok (.goto (-19), 3) := by decide +kernel
theorem d_Picture_hasEntry_27 : decode b_Picture_hasEntry 27 = .ok (.iconst 0, 1) := by decide +kernel
theorem d_Picture_hasEntry_28 : decode b_Picture_hasEntry 28 = .ok (.ireturn, 1) := by decide +kernel
theorem d_Picture_isWanting_0 : decode b_Picture_isWanting 0 = .ok (.iconst 0, 1) := by decide +kernel
theorem d_Picture_isWanting_1 : decode b_Picture_isWanting 1 = .ok (.istore_n 1, 1) := by decide +kernel
theorem d_Picture_isWanting_2 : decode b_Picture_isWanting 2 = .ok (.aload_n 0, 1) := by decide +kernel
theorem d_Picture_isWanting_3 : decode b_Picture_isWanting 3 = .ok (.getfield 24, 3) := by decide +kernel
theorem d_Picture_isWanting_6 : decode b_Picture_isWanting 6 = .ok (.astore_n 2, 1) := by decide +kernel
theorem d_Picture_isWanting_7 : decode b_Picture_isWanting 7 = .ok (.aload_n 2, 1) := by decide +kernel
theorem d_Picture_isWanting_8 : decode b_Picture_isWanting 8 = .ok (.ifnull 23, 3) := by decide +kernel
theorem d_Picture_isWanting_11 : decode b_Picture_isWanting 11 = .ok (.aload_n 2, 1) := by decide +kernel
theorem d_Picture_isWanting_12 : decode b_Picture_isWanting 12 = .ok (.getfield 61, 3) := by decide +kernel
theorem d_Picture_isWanting_15 : decode b_Picture_isWanting 15 = .ok (.bipush (-2), 2) := by decide +kernel
theorem d_Picture_isWanting_17 : decode b_Picture_isWanting 17 = .ok (.if_icmp .eq 6, 3) := by decide +kernel
theorem d_Picture_isWanting_20 : decode b_Picture_isWanting 20 = .ok (.iinc 1 1, 3) := by decide +kernel
theorem d_Picture_isWanting_23 : decode b_Picture_isWanting 23 = .ok (.aload_n 2, 1) := by decide +kernel
theorem d_Picture_isWanting_24 : decode b_Picture_isWanting 24 = .ok (.getfield 71, 3) := by decide +kernel
theorem d_Picture_isWanting_27 : decode b_Picture_isWanting 27 = .ok (.astore_n 2, 1) := by decide +kernel
theorem d_Picture_isWanting_28 : decode b_Picture_isWanting 28 = .ok (.goto (-21), 3) := by decide +kernel
theorem d_Picture_isWanting_31 : decode b_Picture_isWanting 31 = .ok (.iload_n 1, 1) := by decide +kernel
theorem d_Picture_isWanting_32 : decode b_Picture_isWanting 32 = .ok (.aload_n 0, 1) := by decide +kernel
theorem d_Picture_isWanting_33 : decode b_Picture_isWanting 33 = .ok (.getfield 9, 3) := by decide +kernel
theorem d_Picture_isWanting_36 : decode b_Picture_isWanting 36 = .ok (.if_icmp .ge 7, 3) := by decide +kernel
theorem d_Picture_isWanting_39 : decode b_Picture_isWanting 39 = .ok (.iconst 1, 1) := by decide +kernel
theorem d_Picture_isWanting_40 : decode b_Picture_isWanting 40 = .ok (.goto 4, 3) := by decide +kernel
theorem d_Picture_isWanting_43 : decode b_Picture_isWanting 43 = .ok (.iconst 0, 1) := by decide +kernel
theorem d_Picture_isWanting_44 : decode b_Picture_isWanting 44 = .ok (.ireturn, 1) := by decide +kernel
theorem d_Picture_isBarredBy_0 : decode b_Picture_isBarredBy 0 = .ok (.aload_n 0, 1) := by decide +kernel
theorem d_Picture_isBarredBy_1 : decode b_Picture_isBarredBy 1 = .ok (.getfield 24, 3) := by decide +kernel
theorem d_Picture_isBarredBy_4 : decode b_Picture_isBarredBy 4 = .ok (.astore_n 2, 1) := by decide +kernel
theorem d_Picture_isBarredBy_5 : decode b_Picture_isBarredBy 5 = .ok (.aload_n 2, 1) := by decide +kernel
theorem d_Picture_isBarredBy_6 : decode b_Picture_isBarredBy 6 = .ok (.ifnull 62, 3) := by decide +kernel
theorem d_Picture_isBarredBy_9 : decode b_Picture_isBarredBy 9 = .ok (.aload_n 2, 1) := by decide +kernel
theorem d_Picture_isBarredBy_10 : decode b_Picture_isBarredBy 10 = .ok (.getfield 74, 3) := by decide +kernel
theorem d_Picture_isBarredBy_13 : decode b_Picture_isBarredBy 13 = .ok (.aload_n 1, 1) := by decide +kernel
theorem d_Picture_isBarredBy_14 : decode b_Picture_isBarredBy 14 = .ok (.getfield 77, 3) := by decide +kernel
theorem d_Picture_isBarredBy_17 : decode b_Picture_isBarredBy 17 = .ok (.if_icmp .ne 16, 3) := by decide +kernel
theorem d_Picture_isBarredBy_20 : decode b_Picture_isBarredBy 20 = .ok (.aload_n 2, 1) := by decide +kernel
theorem d_Picture_isBarredBy_21 : decode b_Picture_isBarredBy 21 = .ok (.getfield 61, 3) := by decide +kernel
theorem d_Picture_isBarredBy_24 : decode b_Picture_isBarredBy 24 = .ok (.bipush (-2), 2) := by decide +kernel
theorem d_Picture_isBarredBy_26 : decode b_Picture_isBarredBy 26 = .ok (.if_icmp .eq 7, 3) := by decide +kernel
theorem d_Picture_isBarredBy_29 : decode b_Picture_isBarredBy 29 = .ok (.iconst 1, 1) := by decide +kernel
theorem d_Picture_isBarredBy_30 : decode b_Picture_isBarredBy 30 = .ok (.goto 4, 3) := by decide +kernel
theorem d_Picture_isBarredBy_33 : decode b_Picture_isBarredBy 33 = .ok (.iconst 0, 1) := by decide +kernel
theorem d_Picture_isBarredBy_34 : decode b_Picture_isBarredBy 34 = .ok (.istore_n 3, 1) := by decide +kernel
theorem d_Picture_isBarredBy_35 : decode b_Picture_isBarredBy 35 = .ok (.aload_n 2, 1) := by decide +kernel
theorem d_Picture_isBarredBy_36 : decode b_Picture_isBarredBy 36 = .ok (.getfield 68, 3) := by decide +kernel
theorem d_Picture_isBarredBy_39 : decode b_Picture_isBarredBy 39 = .ok (.aload_n 1, 1) := by decide +kernel
theorem d_Picture_isBarredBy_40 : decode b_Picture_isBarredBy 40 = .ok (.getfield 78, 3) := by decide +kernel
theorem d_Picture_isBarredBy_43 : decode b_Picture_isBarredBy 43 = .ok (.if_icmp .eq 15, 3) := by decide +kernel
theorem d_Picture_isBarredBy_46 : decode b_Picture_isBarredBy 46 = .ok (.iload_n 3, 1) := by decide +kernel
theorem d_Picture_isBarredBy_47 : decode b_Picture_isBarredBy 47 = .ok (.ifCond .eq 13, 3) := by decide +kernel
theorem d_Picture_isBarredBy_50 : decode b_Picture_isBarredBy 50 = .ok (.aload_n 0, 1) := by decide +kernel
theorem d_Picture_isBarredBy_51 : decode b_Picture_isBarredBy 51 = .ok (.getfield 9, 3) := by decide +kernel
theorem d_Picture_isBarredBy_54 : decode b_Picture_isBarredBy 54 = .ok (.iconst 2, 1) := by decide +kernel
theorem d_Picture_isBarredBy_55 : decode b_Picture_isBarredBy 55 = .ok (.if_icmp .ne 5, 3) := by decide +kernel
theorem d_Picture_isBarredBy_58 : decode b_Picture_isBarredBy 58 = .ok (.iconst 1, 1) := by decide +kernel
theorem d_Picture_isBarredBy_59 : decode b_Picture_isBarredBy 59 = .ok (.ireturn, 1) := by decide +kernel
theorem d_Picture_isBarredBy_60 : decode b_Picture_isBarredBy 60 = .ok (.aload_n 2, 1) := by decide +kernel
theorem d_Picture_isBarredBy_61 : decode b_Picture_isBarredBy 61 = .ok (.getfield 71, 3) := by decide +kernel
theorem d_Picture_isBarredBy_64 : decode b_Picture_isBarredBy 64 = .ok (.astore_n 2, 1) := by decide +kernel
theorem d_Picture_isBarredBy_65 : decode b_Picture_isBarredBy 65 = .ok (.goto (-60), 3) := by decide +kernel
theorem d_Picture_isBarredBy_68 : decode b_Picture_isBarredBy 68 = .ok (.iconst 0, 1) := by decide +kernel
theorem d_Picture_isBarredBy_69 : decode b_Picture_isBarredBy 69 = .ok (.ireturn, 1) := by decide +kernel
