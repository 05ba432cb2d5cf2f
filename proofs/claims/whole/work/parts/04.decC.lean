theorem dX7_init_0 : decode cX7_init 0 = .ok (.aload_n 0, 1) := by decide +kernel
theorem dX7_init_1 : decode cX7_init 1 = .ok (.invokespecial 1, 3) := by decide +kernel
theorem dX7_init_4 : decode cX7_init 4 = .ok (.aload_n 0, 1) := by decide +kernel
theorem dX7_init_5 : decode cX7_init 5 = .ok (.bipush 6, 2) := by decide +kernel
theorem dX7_init_7 : decode cX7_init 7 = .ok (.newarray .int, 2) := by decide +kernel
theorem dX7_init_9 : decode cX7_init 9 = .ok (.putfield 7, 3) := by decide +kernel
theorem dX7_init_12 : decode cX7_init 12 = .ok (.aload_n 0, 1) := by decide +kernel
theorem dX7_init_13 : decode cX7_init 13 = .ok (.bipush 6, 2) := by decide +kernel
theorem dX7_init_15 : decode cX7_init 15 = .ok (.newarray .int, 2) := by decide +kernel
theorem dX7_init_17 : decode cX7_init 17 = .ok (.putfield 13, 3) := by decide +kernel
theorem dX7_init_20 : decode cX7_init 20 = .ok (.aload_n 0, 1) := by decide +kernel
theorem dX7_init_21 : decode cX7_init 21 = .ok (.sipush 144, 3) := by decide +kernel
theorem dX7_init_24 : decode cX7_init 24 = .ok (.newarray .long, 2) := by decide +kernel
theorem dX7_init_26 : decode cX7_init 26 = .ok (.putfield 16, 3) := by decide +kernel
theorem dX7_init_29 : decode cX7_init 29 = .ok (.aload_n 0, 1) := by decide +kernel
theorem dX7_init_30 : decode cX7_init 30 = .ok (.bipush 60, 2) := by decide +kernel
theorem dX7_init_32 : decode cX7_init 32 = .ok (.newarray .int, 2) := by decide +kernel
theorem dX7_init_34 : decode cX7_init 34 = .ok (.putfield 20, 3) := by decide +kernel
theorem dX7_init_37 : decode cX7_init 37 = .ok (.aload_n 0, 1) := by decide +kernel
theorem dX7_init_38 : decode cX7_init 38 = .ok (.sipush 720, 3) := by decide +kernel
theorem dX7_init_41 : decode cX7_init 41 = .ok (.newarray .int, 2) := by decide +kernel
theorem dX7_init_43 : decode cX7_init 43 = .ok (.putfield 23, 3) := by decide +kernel
theorem dX7_init_46 : decode cX7_init 46 = .ok (.aload_n 0, 1) := by decide +kernel
theorem dX7_init_47 : decode cX7_init 47 = .ok (.bipush 12, 2) := by decide +kernel
theorem dX7_init_49 : decode cX7_init 49 = .ok (.newarray .long, 2) := by decide +kernel
theorem dX7_init_51 : decode cX7_init 51 = .ok (.putfield 26, 3) := by decide +kernel
theorem dX7_init_54 : decode cX7_init 54 = .ok (.aload_n 0, 1) := by decide +kernel
theorem dX7_init_55 : decode cX7_init 55 = .ok (.sipush 1000, 3) := by decide +kernel
theorem dX7_init_58 : decode cX7_init 58 = .ok (.newarray .int, 2) := by decide +kernel
theorem dX7_init_60 : decode cX7_init 60 = .ok (.putfield 29, 3) := by decide +kernel
theorem dX7_init_63 : decode cX7_init 63 = .ok (.aload_n 0, 1) := by decide +kernel
theorem dX7_init_64 : decode cX7_init 64 = .ok (.bipush (-3), 2) := by decide +kernel
theorem dX7_init_66 : decode cX7_init 66 = .ok (.putfield 32, 3) := by decide +kernel
theorem dX7_init_69 : decode cX7_init 69 = .ok (.aload_n 0, 1) := by decide +kernel
theorem dX7_init_70 : decode cX7_init 70 = .ok (.sipush 720, 3) := by decide +kernel
theorem dX7_init_73 : decode cX7_init 73 = .ok (.newarray .int, 2) := by decide +kernel
theorem dX7_init_75 : decode cX7_init 75 = .ok (.putfield 36, 3) := by decide +kernel
theorem dX7_init_78 : decode cX7_init 78 = .ok (.aload_n 0, 1) := by decide +kernel
theorem dX7_init_79 : decode cX7_init 79 = .ok (.bipush 24, 2) := by decide +kernel
theorem dX7_init_81 : decode cX7_init 81 = .ok (.newarray .long, 2) := by decide +kernel
theorem dX7_init_83 : decode cX7_init 83 = .ok (.putfield 39, 3) := by decide +kernel
theorem dX7_init_86 : decode cX7_init 86 = .ok (.aload_n 0, 1) := by decide +kernel
theorem dX7_init_87 : decode cX7_init 87 = .ok (.iconst 4, 1) := by decide +kernel
theorem dX7_init_88 : decode cX7_init 88 = .ok (.newarray .long, 2) := by decide +kernel
theorem dX7_init_90 : decode cX7_init 90 = .ok (.putfield 42, 3) := by decide +kernel
theorem dX7_init_93 : decode cX7_init 93 = .ok (.aload_n 0, 1) := by decide +kernel
theorem dX7_init_94 : decode cX7_init 94 = .ok (.sipush 24000, 3) := by decide +kernel
theorem dX7_init_97 : decode cX7_init 97 = .ok (.newarray .long, 2) := by decide +kernel
theorem dX7_init_99 : decode cX7_init 99 = .ok (.putfield 45, 3) := by decide +kernel
theorem dX7_init_102 : decode cX7_init 102 = .ok (.aload_n 0, 1) := by decide +kernel
theorem dX7_init_103 : decode cX7_init 103 = .ok (.sipush 2000, 3) := by decide +kernel
theorem dX7_init_106 : decode cX7_init 106 = .ok (.newarray .int, 2) := by decide +kernel
theorem dX7_init_108 : decode cX7_init 108 = .ok (.putfield 48, 3) := by decide +kernel
theorem dX7_init_111 : decode cX7_init 111 = .ok (.aload_n 0, 1) := by decide +kernel
theorem dX7_init_112 : decode cX7_init 112 = .ok (.sipush 732, 3) := by decide +kernel
theorem dX7_init_115 : decode cX7_init 115 = .ok (.newarray .long, 2) := by decide +kernel
theorem dX7_init_117 : decode cX7_init 117 = .ok (.putfield 51, 3) := by decide +kernel
theorem dX7_init_120 : decode cX7_init 120 = .ok (.aload_n 0, 1) := by decide +kernel
theorem dX7_init_121 : decode cX7_init 121 = .ok (.sipush 10368, 3) := by decide +kernel
theorem dX7_init_124 : decode cX7_init 124 = .ok (.newarray .int, 2) := by decide +kernel
theorem dX7_init_126 : decode cX7_init 126 = .ok (.putfield 54, 3) := by decide +kernel
theorem dX7_init_129 : decode cX7_init 129 = .ok (.aload_n 0, 1) := by decide +kernel
theorem dX7_init_130 : decode cX7_init 130 = .ok (.ldc 57, 2) := by decide +kernel
theorem dX7_init_132 : decode cX7_init 132 = .ok (.newarray .int, 2) := by decide +kernel
theorem dX7_init_134 : decode cX7_init 134 = .ok (.putfield 58, 3) := by decide +kernel
theorem dX7_init_137 : decode cX7_init 137 = .ok (.iconst 0, 1) := by decide +kernel
theorem dX7_init_138 : decode cX7_init 138 = .ok (.istore_n 1, 1) := by decide +kernel
theorem dX7_init_139 : decode cX7_init 139 = .ok (.iload_n 1, 1) := by decide +kernel
theorem dX7_init_140 : decode cX7_init 140 = .ok (.bipush 6, 2) := by decide +kernel
theorem dX7_init_142 : decode cX7_init 142 = .ok (.if_icmp .ge 16, 3) := by decide +kernel
theorem dX7_init_145 : decode cX7_init 145 = .ok (.aload_n 0, 1) := by decide +kernel
theorem dX7_init_146 : decode cX7_init 146 = .ok (.getfield 7, 3) := by decide +kernel
theorem dX7_init_149 : decode cX7_init 149 = .ok (.iload_n 1, 1) := by decide +kernel
theorem dX7_init_150 : decode cX7_init 150 = .ok (.iconst (-1), 1) := by decide +kernel
theorem dX7_init_151 : decode cX7_init 151 = .ok (.iastore, 1) := by decide +kernel
theorem dX7_init_152 : decode cX7_init 152 = .ok (.iinc 1 1, 3) := by decide +kernel
theorem dX7_init_155 : decode cX7_init 155 = .ok (.goto (-16), 3) := by decide +kernel
theorem dX7_init_158 : decode cX7_init 158 = .ok (.return_, 1) := by decide +kernel
theorem dX7_in_0 : decode cX7_in 0 = .ok (.lload_n 0, 1) := by decide +kernel
theorem dX7_in_1 : decode cX7_in 1 = .ok (.lload_n 2, 1) := by decide +kernel
theorem dX7_in_2 : decode cX7_in 2 = .ok (.lcmp, 1) := by decide +kernel
theorem dX7_in_3 : decode cX7_in 3 = .ok (.ifCond .lt 14, 3) := by decide +kernel
theorem dX7_in_6 : decode cX7_in 6 = .ok (.lload_n 0, 1) := by decide +kernel
theorem dX7_in_7 : decode cX7_in 7 = .ok (.lload 4, 2) := by decide +kernel
theorem dX7_in_9 : decode cX7_in 9 = .ok (.lcmp, 1) := by decide +kernel
theorem dX7_in_10 : decode cX7_in 10 = .ok (.ifCond .gt 7, 3) := by decide +kernel
theorem dX7_in_13 : decode cX7_in 13 = .ok (.iconst 1, 1) := by decide +kernel
theorem dX7_in_14 : decode cX7_in 14 = .ok (.goto 4, 3) := by decide +kernel
theorem dX7_in_17 : decode cX7_in 17 = .ok (.iconst 0, 1) := by decide +kernel
theorem dX7_in_18 : decode cX7_in 18 = .ok (.ireturn, 1) := by decide +kernel
theorem dX7_isBag_0 : decode cX7_isBag 0 = .ok (.iload_n 0, 1) := by decide +kernel
theorem dX7_isBag_1 : decode cX7_isBag 1 = .ok (.i2l, 1) := by decide +kernel
theorem dX7_isBag_2 : decode cX7_isBag 2 = .ok (.lconst 0, 1) := by decide +kernel
theorem dX7_isBag_3 : decode cX7_isBag 3 = .ok (.ldc2_w 61, 3) := by decide +kernel
theorem dX7_isBag_6 : decode cX7_isBag 6 = .ok (.invokestatic 63, 3) := by decide +kernel
theorem dX7_isBag_9 : decode cX7_isBag 9 = .ok (.ireturn, 1) := by decide +kernel
theorem dX7_bag_0 : decode cX7_bag 0 = .ok (.iload_n 1, 1) := by decide +kernel
theorem dX7_bag_1 : decode cX7_bag 1 = .ok (.invokestatic 67, 3) := by decide +kernel
theorem dX7_bag_4 : decode cX7_bag 4 = .ok (.ifCond .eq 27, 3) := by decide +kernel
theorem dX7_bag_7 : decode cX7_bag 7 = .ok (.iload_n 2, 1) := by decide +kernel
theorem dX7_bag_8 : decode cX7_bag 8 = .ok (.i2l, 1) := by decide +kernel
theorem dX7_bag_9 : decode cX7_bag 9 = .ok (.ldc2_w 71, 3) := by decide +kernel
theorem dX7_bag_12 : decode cX7_bag 12 = .ok (.ldc2_w 73, 3) := by decide +kernel
theorem dX7_bag_15 : decode cX7_bag 15 = .ok (.invokestatic 63, 3) := by decide +kernel
theorem dX7_bag_18 : decode cX7_bag 18 = .ok (.ifCond .eq 13, 3) := by decide +kernel
theorem dX7_bag_21 : decode cX7_bag 21 = .ok (.iload_n 2, 1) := by decide +kernel
theorem dX7_bag_22 : decode cX7_bag 22 = .ok (.ifCond .lt 11, 3) := by decide +kernel
theorem dX7_bag_25 : decode cX7_bag 25 = .ok (.iload_n 3, 1) := by decide +kernel
theorem dX7_bag_26 : decode cX7_bag 26 = .ok (.bipush 24, 2) := by decide +kernel
theorem dX7_bag_28 : decode cX7_bag 28 = .ok (.if_icmp .le 5, 3) := by decide +kernel
theorem dX7_bag_31 : decode cX7_bag 31 = .ok (.iconst (-1), 1) := by decide +kernel
theorem dX7_bag_32 : decode cX7_bag 32 = .ok (.ireturn, 1) := by decide +kernel
theorem dX7_bag_33 : decode cX7_bag 33 = .ok (.iload_n 2, 1) := by decide +kernel
theorem dX7_bag_34 : decode cX7_bag 34 = .ok (.ifCond .lt 10, 3) := by decide +kernel
theorem dX7_bag_37 : decode cX7_bag 37 = .ok (.iload_n 3, 1) := by decide +kernel
theorem dX7_bag_38 : decode cX7_bag 38 = .ok (.ifCond .ge 6, 3) := by decide +kernel
theorem dX7_bag_41 : decode cX7_bag 41 = .ok (.bipush (-13), 2) := by decide +kernel
theorem dX7_bag_43 : decode cX7_bag 43 = .ok (.ireturn, 1) := by decide +kernel
theorem dX7_bag_44 : decode cX7_bag 44 = .ok (.aload_n 0, 1) := by decide +kernel
theorem dX7_bag_45 : decode cX7_bag 45 = .ok (.getfield 7, 3) := by decide +kernel
theorem dX7_bag_48 : decode cX7_bag 48 = .ok (.iload_n 1, 1) := by decide +kernel
theorem dX7_bag_49 : decode cX7_bag 49 = .ok (.iload_n 2, 1) := by decide +kernel
theorem dX7_bag_50 : decode cX7_bag 50 = .ok (.iastore, 1) := by decide +kernel
theorem dX7_bag_51 : decode cX7_bag 51 = .ok (.aload_n 0, 1) := by decide +kernel
theorem dX7_bag_52 : decode cX7_bag 52 = .ok (.getfield 13, 3) := by decide +kernel
theorem dX7_bag_55 : decode cX7_bag 55 = .ok (.iload_n 1, 1) := by decide +kernel
theorem dX7_bag_56 : decode cX7_bag 56 = .ok (.iload_n 2, 1) := by decide +kernel
theorem dX7_bag_57 : decode cX7_bag 57 = .ok (.ifCond .ge 7, 3) := by decide +kernel
theorem dX7_bag_60 : decode cX7_bag 60 = .ok (.iconst 0, 1) := by decide +kernel
theorem dX7_bag_61 : decode cX7_bag 61 = .ok (.goto 4, 3) := by decide +kernel
theorem dX7_bag_64 : decode cX7_bag 64 = .ok (.iload_n 3, 1) := by decide +kernel
theorem dX7_bag_65 : decode cX7_bag 65 = .ok (.iastore, 1) := by decide +kernel
theorem dX7_bag_66 : decode cX7_bag 66 = .ok (.iconst 0, 1) := by decide +kernel
theorem dX7_bag_67 : decode cX7_bag 67 = .ok (.istore 4, 2) := by decide +kernel
theorem dX7_bag_69 : decode cX7_bag 69 = .ok (.iload 4, 2) := by decide +kernel
theorem dX7_bag_71 : decode cX7_bag 71 = .ok (.bipush 24, 2) := by decide +kernel
theorem dX7_bag_73 : decode cX7_bag 73 = .ok (.if_icmp .ge 22, 3) := by decide +kernel
theorem dX7_bag_76 : decode cX7_bag 76 = .ok (.aload_n 0, 1) := by decide +kernel
theorem dX7_bag_77 : decode cX7_bag 77 = .ok (.getfield 16, 3) := by decide +kernel
theorem dX7_bag_80 : decode cX7_bag 80 = .ok (.bipush 24, 2) := by decide +kernel
theorem dX7_bag_82 : decode cX7_bag 82 = .ok (.iload_n 1, 1) := by decide +kernel
theorem dX7_bag_83 : decode cX7_bag 83 = .ok (.imul, 1) := by decide +kernel
theorem dX7_bag_84 : decode cX7_bag 84 = .ok (.iload 4, 2) := by decide +kernel
theorem dX7_bag_86 : decode cX7_bag 86 = .ok (.iadd, 1) := by decide +kernel
theorem dX7_bag_87 : decode cX7_bag 87 = .ok (.lconst 0, 1) := by decide +kernel
theorem dX7_bag_88 : decode cX7_bag 88 = .ok (.lastore, 1) := by decide +kernel
theorem dX7_bag_89 : decode cX7_bag 89 = .ok (.iinc 4 1, 3) := by decide +kernel
theorem dX7_bag_92 : decode cX7_bag 92 = .ok (.goto (-23), 3) := by decide +kernel
theorem dX7_bag_95 : decode cX7_bag 95 = .ok (.iconst 0, 1) := by decide +kernel
theorem dX7_bag_96 : decode cX7_bag 96 = .ok (.ireturn, 1) := by decide +kernel
theorem dX7_against_0 : decode cX7_against 0 = .ok (.iload_n 1, 1) := by decide +kernel
theorem dX7_against_1 : decode cX7_against 1 = .ok (.invokestatic 67, 3) := by decide +kernel
theorem dX7_against_4 : decode cX7_against 4 = .ok (.ifCond .ne 7, 3) := by decide +kernel
theorem dX7_against_7 : decode cX7_against 7 = .ok (.iconst (-1), 1) := by decide +kernel
theorem dX7_against_8 : decode cX7_against 8 = .ok (.goto 41, 3) := by decide +kernel
theorem dX7_against_11 : decode cX7_against 11 = .ok (.aload_n 0, 1) := by decide +kernel
theorem dX7_against_12 : decode cX7_against 12 = .ok (.getfield 7, 3) := by decide +kernel
theorem dX7_against_15 : decode cX7_against 15 = .ok (.iload_n 1, 1) := by decide +kernel
theorem dX7_against_16 : decode cX7_against 16 = .ok (.iaload, 1) := by decide +kernel
theorem dX7_against_17 : decode cX7_against 17 = .ok (.ifCond .ge 8, 3) := by decide +kernel
theorem dX7_against_20 : decode cX7_against 20 = .ok (.bipush (-11), 2) := by decide +kernel
theorem dX7_against_22 : decode cX7_against 22 = .ok (.goto 27, 3) := by decide +kernel
theorem dX7_against_25 : decode cX7_against 25 = .ok (.iload_n 2, 1) := by decide +kernel
theorem dX7_against_26 : decode cX7_against 26 = .ok (.i2l, 1) := by decide +kernel
theorem dX7_against_27 : decode cX7_against 27 = .ok (.lconst 0, 1) := by decide +kernel
theorem dX7_against_28 : decode cX7_against 28 = .ok (.aload_n 0, 1) := by decide +kernel
theorem dX7_against_29 : decode cX7_against 29 = .ok (.getfield 13, 3) := by decide +kernel
theorem dX7_against_32 : decode cX7_against 32 = .ok (.iload_n 1, 1) := by decide +kernel
theorem dX7_against_33 : decode cX7_against 33 = .ok (.iaload, 1) := by decide +kernel
theorem dX7_against_34 : decode cX7_against 34 = .ok (.iconst 1, 1) := by decide +kernel
theorem dX7_against_35 : decode cX7_against 35 = .ok (.isub, 1) := by decide +kernel
theorem dX7_against_36 : decode cX7_against 36 = .ok (.i2l, 1) := by decide +kernel
theorem dX7_against_37 : decode cX7_against 37 = .ok (.invokestatic 63, 3) := by decide +kernel
theorem dX7_against_40 : decode cX7_against 40 = .ok (.ifCond .ne 8, 3) := by decide +kernel
theorem dX7_against_43 : decode cX7_against 43 = .ok (.bipush (-12), 2) := by decide +kernel
theorem dX7_against_45 : decode cX7_against 45 = .ok (.goto 4, 3) := by decide +kernel
theorem dX7_against_48 : decode cX7_against 48 = .ok (.iconst 0, 1) := by decide +kernel
theorem dX7_against_49 : decode cX7_against 49 = .ok (.ireturn, 1) := by decide +kernel
theorem dX7_put_0 : decode cX7_put 0 = .ok (.aload_n 0, 1) := by decide +kernel
theorem dX7_put_1 : decode cX7_put 1 = .ok (.iload_n 1, 1) := by decide +kernel
theorem dX7_put_2 : decode cX7_put 2 = .ok (.iload_n 2, 1) := by decide +kernel
theorem dX7_put_3 : decode cX7_put 3 = .ok (.invokevirtual 75, 3) := by decide +kernel
theorem dX7_put_6 : decode cX7_put 6 = .ok (.istore 5, 2) := by decide +kernel
theorem dX7_put_8 : decode cX7_put 8 = .ok (.iload 5, 2) := by decide +kernel
theorem dX7_put_10 : decode cX7_put 10 = .ok (.ifCond .ne 47, 3) := by decide +kernel
theorem dX7_put_13 : decode cX7_put 13 = .ok (.aload_n 0, 1) := by decide +kernel
theorem dX7_put_14 : decode cX7_put 14 = .ok (.getfield 16, 3) := by decide +kernel
theorem dX7_put_17 : decode cX7_put 17 = .ok (.bipush 24, 2) := by decide +kernel
theorem dX7_put_19 : decode cX7_put 19 = .ok (.iload_n 1, 1) := by decide +kernel
theorem dX7_put_20 : decode cX7_put 20 = .ok (.imul, 1) := by decide +kernel
theorem dX7_put_21 : decode cX7_put 21 = .ok (.iload_n 2, 1) := by decide +kernel
theorem dX7_put_22 : decode cX7_put 22 = .ok (.iadd, 1) := by decide +kernel
theorem dX7_put_23 : decode cX7_put 23 = .ok (.aload_n 0, 1) := by decide +kernel
theorem dX7_put_24 : decode cX7_put 24 = .ok (.getfield 7, 3) := by decide +kernel
theorem dX7_put_27 : decode cX7_put 27 = .ok (.iload_n 1, 1) := by decide +kernel
theorem dX7_put_28 : decode cX7_put 28 = .ok (.iaload, 1) := by decide +kernel
theorem dX7_put_29 : decode cX7_put 29 = .ok (.ifCond .ne 10, 3) := by decide +kernel
theorem dX7_put_32 : decode cX7_put 32 = .ok (.lload_n 3, 1) := by decide +kernel
theorem dX7_put_33 : decode cX7_put 33 = .ok (.l2i, 1) := by decide +kernel
theorem dX7_put_34 : decode cX7_put 34 = .ok (.i2s, 1) := by decide +kernel
theorem dX7_put_35 : decode cX7_put 35 = .ok (.i2l, 1) := by decide +kernel
theorem dX7_put_36 : decode cX7_put 36 = .ok (.goto 20, 3) := by decide +kernel
theorem dX7_put_39 : decode cX7_put 39 = .ok (.aload_n 0, 1) := by decide +kernel
theorem dX7_put_40 : decode cX7_put 40 = .ok (.getfield 7, 3) := by decide +kernel
theorem dX7_put_43 : decode cX7_put 43 = .ok (.iload_n 1, 1) := by decide +kernel
theorem dX7_put_44 : decode cX7_put 44 = .ok (.iaload, 1) := by decide +kernel
theorem dX7_put_45 : decode cX7_put 45 = .ok (.iconst 1, 1) := by decide +kernel
theorem dX7_put_46 : decode cX7_put 46 = .ok (.if_icmp .ne 9, 3) := by decide +kernel
theorem dX7_put_49 : decode cX7_put 49 = .ok (.lload_n 3, 1) := by decide +kernel
theorem dX7_put_50 : decode cX7_put 50 = .ok (.l2i, 1) := by decide +kernel
theorem dX7_put_51 : decode cX7_put 51 = .ok (.i2l, 1) := by decide +kernel
theorem dX7_put_52 : decode cX7_put 52 = .ok (.goto 4, 3) := by decide +kernel
theorem dX7_put_55 : decode cX7_put 55 = .ok (.lload_n 3, 1) := by decide +kernel
theorem dX7_put_56 : decode cX7_put 56 = .ok (.lastore, 1) := by decide +kernel
theorem dX7_put_57 : decode cX7_put 57 = .ok (.iload 5, 2) := by decide +kernel
theorem dX7_put_59 : decode cX7_put 59 = .ok (.ireturn, 1) := by decide +kernel
theorem dX7_copy_0 : decode cX7_copy 0 = .ok (.iload_n 1, 1) := by decide +kernel
theorem dX7_copy_1 : decode cX7_copy 1 = .ok (.invokestatic 67, 3) := by decide +kernel
theorem dX7_copy_4 : decode cX7_copy 4 = .ok (.ifCond .eq 10, 3) := by decide +kernel
theorem dX7_copy_7 : decode cX7_copy 7 = .ok (.iload_n 3, 1) := by decide +kernel
theorem dX7_copy_8 : decode cX7_copy 8 = .ok (.invokestatic 67, 3) := by decide +kernel
theorem dX7_copy_11 : decode cX7_copy 11 = .ok (.ifCond .ne 5, 3) := by decide +kernel
theorem dX7_copy_14 : decode cX7_copy 14 = .ok (.iconst (-1), 1) := by decide +kernel
theorem dX7_copy_15 : decode cX7_copy 15 = .ok (.ireturn, 1) := by decide +kernel
theorem dX7_copy_16 : decode cX7_copy 16 = .ok (.aload_n 0, 1) := by decide +kernel
theorem dX7_copy_17 : decode cX7_copy 17 = .ok (.getfield 7, 3) := by decide +kernel
theorem dX7_copy_20 : decode cX7_copy 20 = .ok (.iload_n 1, 1) := by decide +kernel
theorem dX7_copy_21 : decode cX7_copy 21 = .ok (.iaload, 1) := by decide +kernel
theorem dX7_copy_22 : decode cX7_copy 22 = .ok (.ifCond .lt 12, 3) := by decide +kernel
theorem dX7_copy_25 : decode cX7_copy 25 = .ok (.aload_n 0, 1) := by decide +kernel
theorem dX7_copy_26 : decode cX7_copy 26 = .ok (.getfield 7, 3) := by decide +kernel
theorem dX7_copy_29 : decode cX7_copy 29 = .ok (.iload_n 3, 1) := by decide +kernel
theorem dX7_copy_30 : decode cX7_copy 30 = .ok (.iaload, 1) := by decide +kernel
theorem dX7_copy_31 : decode cX7_copy 31 = .ok (.ifCond .ge 6, 3) := by decide +kernel
theorem dX7_copy_34 : decode cX7_copy 34 = .ok (.bipush (-11), 2) := by decide +kernel
theorem dX7_copy_36 : decode cX7_copy 36 = .ok (.ireturn, 1) := by decide +kernel
theorem dX7_copy_37 : decode cX7_copy 37 = .ok (.aload_n 0, 1) := by decide +kernel
theorem dX7_copy_38 : decode cX7_copy 38 = .ok (.getfield 7, 3) := by decide +kernel
theorem dX7_copy_41 : decode cX7_copy 41 = .ok (.iload_n 1, 1) := by decide +kernel
theorem dX7_copy_42 : decode cX7_copy 42 = .ok (.iaload, 1) := by decide +kernel
theorem dX7_copy_43 : decode cX7_copy 43 = .ok (.aload_n 0, 1) := by decide +kernel
theorem dX7_copy_44 : decode cX7_copy 44 = .ok (.getfield 7, 3) := by decide +kernel
theorem dX7_copy_47 : decode cX7_copy 47 = .ok (.iload_n 3, 1) := by decide +kernel
theorem dX7_copy_48 : decode cX7_copy 48 = .ok (.iaload, 1) := by decide +kernel
theorem dX7_copy_49 : decode cX7_copy 49 = .ok (.if_icmp .eq 6, 3) := by decide +kernel
theorem dX7_copy_52 : decode cX7_copy 52 = .ok (.bipush (-14), 2) := by decide +kernel
theorem dX7_copy_54 : decode cX7_copy 54 = .ok (.ireturn, 1) := by decide +kernel
theorem dX7_copy_55 : decode cX7_copy 55 = .ok (.iload 5, 2) := by decide +kernel
theorem dX7_copy_57 : decode cX7_copy 57 = .ok (.ifCond .lt 47, 3) := by decide +kernel
theorem dX7_copy_60 : decode cX7_copy 60 = .ok (.iload_n 2, 1) := by decide +kernel
theorem dX7_copy_61 : decode cX7_copy 61 = .ok (.ifCond .lt 43, 3) := by decide +kernel
theorem dX7_copy_64 : decode cX7_copy 64 = .ok (.iload 4, 2) := by decide +kernel
theorem dX7_copy_66 : decode cX7_copy 66 = .ok (.ifCond .lt 38, 3) := by decide +kernel
theorem dX7_copy_69 : decode cX7_copy 69 = .ok (.iload_n 2, 1) := by decide +kernel
theorem dX7_copy_70 : decode cX7_copy 70 = .ok (.i2l, 1) := by decide +kernel
theorem dX7_copy_71 : decode cX7_copy 71 = .ok (.iload 5, 2) := by decide +kernel
theorem dX7_copy_73 : decode cX7_copy 73 = .ok (.i2l, 1) := by decide +kernel
theorem dX7_copy_74 : decode cX7_copy 74 = .ok (.ladd, 1) := by decide +kernel
theorem dX7_copy_75 : decode cX7_copy 75 = .ok (.aload_n 0, 1) := by decide +kernel
theorem dX7_copy_76 : decode cX7_copy 76 = .ok (.getfield 13, 3) := by decide +kernel
theorem dX7_copy_79 : decode cX7_copy 79 = .ok (.iload_n 1, 1) := by decide +kernel
theorem dX7_copy_80 : decode cX7_copy 80 = .ok (.iaload, 1) := by decide +kernel
theorem dX7_copy_81 : decode cX7_copy 81 = .ok (.i2l, 1) := by decide +kernel
theorem dX7_copy_82 : decode cX7_copy 82 = .ok (.lcmp, 1) := by decide +kernel
theorem dX7_copy_83 : decode cX7_copy 83 = .ok (.ifCond .gt 21, 3) := by decide +kernel
theorem dX7_copy_86 : decode cX7_copy 86 = .ok (.iload 4, 2) := by decide +kernel
theorem dX7_copy_88 : decode cX7_copy 88 = .ok (.i2l, 1) := by decide +kernel
theorem dX7_copy_89 : decode cX7_copy 89 = .ok (.iload 5, 2) := by decide +kernel
theorem dX7_copy_91 : decode cX7_copy 91 = .ok (.i2l, 1) := by decide +kernel
theorem dX7_copy_92 : decode cX7_copy 92 = .ok (.ladd, 1) := by decide +kernel
theorem dX7_copy_93 : decode cX7_copy 93 = .ok (.aload_n 0, 1) := by decide +kernel
theorem dX7_copy_94 : decode cX7_copy 94 = .ok (.getfield 13, 3) := by decide +kernel
theorem dX7_copy_97 : decode cX7_copy 97 = .ok (.iload_n 3, 1) := by decide +kernel
theorem dX7_copy_98 : decode cX7_copy 98 = .ok (.iaload, 1) := by decide +kernel
theorem dX7_copy_99 : decode cX7_copy 99 = .ok (.i2l, 1) := by decide +kernel
theorem dX7_copy_100 : decode cX7_copy 100 = .ok (.lcmp, 1) := by decide +kernel
theorem dX7_copy_101 : decode cX7_copy 101 = .ok (.ifCond .le 6, 3) := by decide +kernel
theorem dX7_copy_104 : decode cX7_copy 104 = .ok (.bipush (-12), 2) := by decide +kernel
theorem dX7_copy_106 : decode cX7_copy 106 = .ok (.ireturn, 1) := by decide +kernel
theorem dX7_copy_107 : decode cX7_copy 107 = .ok (.iconst 0, 1) := by decide +kernel
theorem dX7_copy_108 : decode cX7_copy 108 = .ok (.istore 6, 2) := by decide +kernel
theorem dX7_copy_110 : decode cX7_copy 110 = .ok (.iload 6, 2) := by decide +kernel
theorem dX7_copy_112 : decode cX7_copy 112 = .ok (.iload 5, 2) := by decide +kernel
theorem dX7_copy_114 : decode cX7_copy 114 = .ok (.if_icmp .ge 30, 3) := by decide +kernel
theorem dX7_copy_117 : decode cX7_copy 117 = .ok (.aload_n 0, 1) := by decide +kernel
theorem dX7_copy_118 : decode cX7_copy 118 = .ok (.getfield 39, 3) := by decide +kernel
theorem dX7_copy_121 : decode cX7_copy 121 = .ok (.iload 6, 2) := by decide +kernel
theorem dX7_copy_123 : decode cX7_copy 123 = .ok (.aload_n 0, 1) := by decide +kernel
theorem dX7_copy_124 : decode cX7_copy 124 = .ok (.getfield 16, 3) := by decide +kernel
theorem dX7_copy_127 : decode cX7_copy 127 = .ok (.bipush 24, 2) := by decide +kernel
theorem dX7_copy_129 : decode cX7_copy 129 = .ok (.iload_n 1, 1) := by decide +kernel
theorem dX7_copy_130 : decode cX7_copy 130 = .ok (.imul, 1) := by decide +kernel
theorem dX7_copy_131 : decode cX7_copy 131 = .ok (.iload_n 2, 1) := by decide +kernel
theorem dX7_copy_132 : decode cX7_copy 132 = .ok (.iadd, 1) := by decide +kernel
theorem dX7_copy_133 : decode cX7_copy 133 = .ok (.iload 6, 2) := by decide +kernel
theorem dX7_copy_135 : decode cX7_copy 135 = .ok (.iadd, 1) := by decide +kernel
theorem dX7_copy_136 : decode cX7_copy 136 = .ok (.laload, 1) := by decide +kernel
theorem dX7_copy_137 : decode cX7_copy 137 = .ok (.lastore, 1) := by decide +kernel
theorem dX7_copy_138 : decode cX7_copy 138 = .ok (.iinc 6 1, 3) := by decide +kernel
theorem dX7_copy_141 : decode cX7_copy 141 = .ok (.goto (-31), 3) := by decide +kernel
theorem dX7_copy_144 : decode cX7_copy 144 = .ok (.iconst 0, 1) := by decide +kernel
theorem dX7_copy_145 : decode cX7_copy 145 = .ok (.istore 6, 2) := by decide +kernel
theorem dX7_copy_147 : decode cX7_copy 147 = .ok (.iload 6, 2) := by decide +kernel
theorem dX7_copy_149 : decode cX7_copy 149 = .ok (.iload 5, 2) := by decide +kernel
theorem dX7_copy_151 : decode cX7_copy 151 = .ok (.if_icmp .ge 31, 3) := by decide +kernel
theorem dX7_copy_154 : decode cX7_copy 154 = .ok (.aload_n 0, 1) := by decide +kernel
theorem dX7_copy_155 : decode cX7_copy 155 = .ok (.getfield 16, 3) := by decide +kernel
theorem dX7_copy_158 : decode cX7_copy 158 = .ok (.bipush 24, 2) := by decide +kernel
theorem dX7_copy_160 : decode cX7_copy 160 = .ok (.iload_n 3, 1) := by decide +kernel
theorem dX7_copy_161 : decode cX7_copy 161 = .ok (.imul, 1) := by decide +kernel
theorem dX7_copy_162 : decode cX7_copy 162 = .ok (.iload 4, 2) := by decide +kernel
theorem dX7_copy_164 : decode cX7_copy 164 = .ok (.iadd, 1) := by decide +kernel
theorem dX7_copy_165 : decode cX7_copy 165 = .ok (.iload 6, 2) := by decide +kernel
theorem dX7_copy_167 : decode cX7_copy 167 = .ok (.iadd, 1) := by decide +kernel
theorem dX7_copy_168 : decode cX7_copy 168 = .ok (.aload_n 0, 1) := by decide +kernel
theorem dX7_copy_169 : decode cX7_copy 169 = .ok (.getfield 39, 3) := by decide +kernel
theorem dX7_copy_172 : decode cX7_copy 172 = .ok (.iload 6, 2) := by decide +kernel
theorem dX7_copy_174 : decode cX7_copy 174 = .ok (.laload, 1) := by decide +kernel
theorem dX7_copy_175 : decode cX7_copy 175 = .ok (.lastore, 1) := by decide +kernel
theorem dX7_copy_176 : decode cX7_copy 176 = .ok (.iinc 6 1, 3) := by decide +kernel
theorem dX7_copy_179 : decode cX7_copy 179 = .ok (.goto (-32), 3) := by decide +kernel
theorem dX7_copy_182 : decode cX7_copy 182 = .ok (.iconst 0, 1) := by decide +kernel
theorem dX7_copy_183 : decode cX7_copy 183 = .ok (.ireturn, 1) := by decide +kernel
theorem dX7_holds_0 : decode cX7_holds 0 = .ok (.aload_n 0, 1) := by decide +kernel
theorem dX7_holds_1 : decode cX7_holds 1 = .ok (.iload_n 1, 1) := by decide +kernel
theorem dX7_holds_2 : decode cX7_holds 2 = .ok (.iload_n 2, 1) := by decide +kernel
theorem dX7_holds_3 : decode cX7_holds 3 = .ok (.invokevirtual 75, 3) := by decide +kernel
theorem dX7_holds_6 : decode cX7_holds 6 = .ok (.istore 5, 2) := by decide +kernel
theorem dX7_holds_8 : decode cX7_holds 8 = .ok (.iload 5, 2) := by decide +kernel
theorem dX7_holds_10 : decode cX7_holds 10 = .ok (.ifCond .eq 8, 3) := by decide +kernel
theorem dX7_holds_13 : decode cX7_holds 13 = .ok (.iload 5, 2) := by decide +kernel
theorem dX7_holds_15 : decode cX7_holds 15 = .ok (.goto 24, 3) := by decide +kernel
theorem dX7_holds_18 : decode cX7_holds 18 = .ok (.aload_n 0, 1) := by decide +kernel
theorem dX7_holds_19 : decode cX7_holds 19 = .ok (.getfield 16, 3) := by decide +kernel
theorem dX7_holds_22 : decode cX7_holds 22 = .ok (.bipush 24, 2) := by decide +kernel
theorem dX7_holds_24 : decode cX7_holds 24 = .ok (.iload_n 1, 1) := by decide +kernel
theorem dX7_holds_25 : decode cX7_holds 25 = .ok (.imul, 1) := by decide +kernel
theorem dX7_holds_26 : decode cX7_holds 26 = .ok (.iload_n 2, 1) := by decide +kernel
theorem dX7_holds_27 : decode cX7_holds 27 = .ok (.iadd, 1) := by decide +kernel
theorem dX7_holds_28 : decode cX7_holds 28 = .ok (.laload, 1) := by decide +kernel
theorem dX7_holds_29 : decode cX7_holds 29 = .ok (.lload_n 3, 1) := by decide +kernel
theorem dX7_holds_30 : decode cX7_holds 30 = .ok (.lcmp, 1) := by decide +kernel
theorem dX7_holds_31 : decode cX7_holds 31 = .ok (.ifCond .ne 7, 3) := by decide +kernel
theorem dX7_holds_34 : decode cX7_holds 34 = .ok (.iconst 1, 1) := by decide +kernel
theorem dX7_holds_35 : decode cX7_holds 35 = .ok (.goto 4, 3) := by decide +kernel
theorem dX7_holds_38 : decode cX7_holds 38 = .ok (.iconst 0, 1) := by decide +kernel
theorem dX7_holds_39 : decode cX7_holds 39 = .ok (.ireturn, 1) := by decide +kernel
theorem dX7_isQuad_0 : decode cX7_isQuad 0 = .ok (.iload_n 1, 1) := by decide +kernel
theorem dX7_isQuad_1 : decode cX7_isQuad 1 = .ok (.i2l, 1) := by decide +kernel
theorem dX7_isQuad_2 : decode cX7_isQuad 2 = .ok (.lconst 0, 1) := by decide +kernel
theorem dX7_isQuad_3 : decode cX7_isQuad 3 = .ok (.aload_n 0, 1) := by decide +kernel
theorem dX7_isQuad_4 : decode cX7_isQuad 4 = .ok (.getfield 79, 3) := by decide +kernel
theorem dX7_isQuad_7 : decode cX7_isQuad 7 = .ok (.iconst 1, 1) := by decide +kernel
theorem dX7_isQuad_8 : decode cX7_isQuad 8 = .ok (.isub, 1) := by decide +kernel
theorem dX7_isQuad_9 : decode cX7_isQuad 9 = .ok (.i2l, 1) := by decide +kernel
theorem dX7_isQuad_10 : decode cX7_isQuad 10 = .ok (.invokestatic 63, 3) := by decide +kernel
theorem dX7_isQuad_13 : decode cX7_isQuad 13 = .ok (.ireturn, 1) := by decide +kernel
theorem dX7_isBend_0 : decode cX7_isBend 0 = .ok (.lload_n 0, 1) := by decide +kernel
theorem dX7_isBend_1 : decode cX7_isBend 1 = .ok (.lconst 0, 1) := by decide +kernel
theorem dX7_isBend_2 : decode cX7_isBend 2 = .ok (.lcmp, 1) := by decide +kernel
theorem dX7_isBend_3 : decode cX7_isBend 3 = .ok (.ifCond .eq 20, 3) := by decide +kernel
theorem dX7_isBend_6 : decode cX7_isBend 6 = .ok (.lload_n 0, 1) := by decide +kernel
theorem dX7_isBend_7 : decode cX7_isBend 7 = .ok (.ldc2_w 82, 3) := by decide +kernel
theorem dX7_isBend_10 : decode cX7_isBend 10 = .ok (.ldc2_w 84, 3) := by decide +kernel
theorem dX7_isBend_13 : decode cX7_isBend 13 = .ok (.invokestatic 63, 3) := by decide +kernel
theorem dX7_isBend_16 : decode cX7_isBend 16 = .ok (.ifCond .eq 7, 3) := by decide +kernel
theorem dX7_isBend_19 : decode cX7_isBend 19 = .ok (.iconst 1, 1) := by decide +kernel
theorem dX7_isBend_20 : decode cX7_isBend 20 = .ok (.goto 4, 3) := by decide +kernel
theorem dX7_isBend_23 : decode cX7_isBend 23 = .ok (.iconst 0, 1) := by decide +kernel
theorem dX7_isBend_24 : decode cX7_isBend 24 = .ok (.ireturn, 1) := by decide +kernel
theorem dX7_isPlace_0 : decode cX7_isPlace 0 = .ok (.lload_n 0, 1) := by decide +kernel
theorem dX7_isPlace_1 : decode cX7_isPlace 1 = .ok (.ldc2_w 86, 3) := by decide +kernel
theorem dX7_isPlace_4 : decode cX7_isPlace 4 = .ok (.ldc2_w 88, 3) := by decide +kernel
theorem dX7_isPlace_7 : decode cX7_isPlace 7 = .ok (.invokestatic 63, 3) := by decide +kernel
theorem dX7_isPlace_10 : decode cX7_isPlace 10 = .ok (.ireturn, 1) := by decide +kernel
theorem dX7_areTouching_0 : decode cX7_areTouching 0 = .ok (.lload 6, 2) := by decide +kernel
theorem dX7_areTouching_2 : decode cX7_areTouching 2 = .ok (.lload_n 2, 1) := by decide +kernel
theorem dX7_areTouching_3 : decode cX7_areTouching 3 = .ok (.lmul, 1) := by decide +kernel
theorem dX7_areTouching_4 : decode cX7_areTouching 4 = .ok (.lload_n 0, 1) := by decide +kernel
theorem dX7_areTouching_5 : decode cX7_areTouching 5 = .ok (.lload 8, 2) := by decide +kernel
theorem dX7_areTouching_7 : decode cX7_areTouching 7 = .ok (.lmul, 1) := by decide +kernel
theorem dX7_areTouching_8 : decode cX7_areTouching 8 = .ok (.lsub, 1) := by decide +kernel
theorem dX7_areTouching_9 : decode cX7_areTouching 9 = .ok (.lstore 12, 2) := by decide +kernel
theorem dX7_areTouching_11 : decode cX7_areTouching 11 = .ok (.lload 6, 2) := by decide +kernel
theorem dX7_areTouching_13 : decode cX7_areTouching 13 = .ok (.lload 4, 2) := by decide +kernel
theorem dX7_areTouching_15 : decode cX7_areTouching 15 = .ok (.lmul, 1) := by decide +kernel
theorem dX7_areTouching_16 : decode cX7_areTouching 16 = .ok (.lload_n 0, 1) := by decide +kernel
theorem dX7_areTouching_17 : decode cX7_areTouching 17 = .ok (.lload 10, 2) := by decide +kernel
theorem dX7_areTouching_19 : decode cX7_areTouching 19 = .ok (.lmul, 1) := by decide +kernel
theorem dX7_areTouching_20 : decode cX7_areTouching 20 = .ok (.lsub, 1) := by decide +kernel
theorem dX7_areTouching_21 : decode cX7_areTouching 21 = .ok (.lstore 14, 2) := by decide +kernel
theorem dX7_areTouching_23 : decode cX7_areTouching 23 = .ok (.lload 12, 2) := by decide +kernel
theorem dX7_areTouching_25 : decode cX7_areTouching 25 = .ok (.lload 12, 2) := by decide +kernel
theorem dX7_areTouching_27 : decode cX7_areTouching 27 = .ok (.lmul, 1) := by decide +kernel
theorem dX7_areTouching_28 : decode cX7_areTouching 28 = .ok (.lload 14, 2) := by decide +kernel
theorem dX7_areTouching_30 : decode cX7_areTouching 30 = .ok (.lload 14, 2) := by decide +kernel
theorem dX7_areTouching_32 : decode cX7_areTouching 32 = .ok (.lmul, 1) := by decide +kernel
theorem dX7_areTouching_33 : decode cX7_areTouching 33 = .ok (.ladd, 1) := by decide +kernel
theorem dX7_areTouching_34 : decode cX7_areTouching 34 = .ok (.lload_n 0, 1) := by decide +kernel
theorem dX7_areTouching_35 : decode cX7_areTouching 35 = .ok (.lload 6, 2) := by decide +kernel
theorem dX7_areTouching_37 : decode cX7_areTouching 37 = .ok (.ladd, 1) := by decide +kernel
theorem dX7_areTouching_38 : decode cX7_areTouching 38 = .ok (.lload_n 0, 1) := by decide +kernel
theorem dX7_areTouching_39 : decode cX7_areTouching 39 = .ok (.lload 6, 2) := by decide +kernel
theorem dX7_areTouching_41 : decode cX7_areTouching 41 = .ok (.ladd, 1) := by decide +kernel
theorem dX7_areTouching_42 : decode cX7_areTouching 42 = .ok (.lmul, 1) := by decide +kernel
theorem dX7_areTouching_43 : decode cX7_areTouching 43 = .ok (.lcmp, 1) := by decide +kernel
theorem dX7_areTouching_44 : decode cX7_areTouching 44 = .ok (.ifCond .ne 7, 3) := by decide +kernel
theorem dX7_areTouching_47 : decode cX7_areTouching 47 = .ok (.iconst 1, 1) := by decide +kernel
theorem dX7_areTouching_48 : decode cX7_areTouching 48 = .ok (.goto 4, 3) := by decide +kernel
theorem dX7_areTouching_51 : decode cX7_areTouching 51 = .ok (.iconst 0, 1) := by decide +kernel
theorem dX7_areTouching_52 : decode cX7_areTouching 52 = .ok (.ireturn, 1) := by decide +kernel
theorem dX7_common_0 : decode cX7_common 0 = .ok (.lload_n 0, 1) := by decide +kernel
theorem dX7_common_1 : decode cX7_common 1 = .ok (.lconst 0, 1) := by decide +kernel
theorem dX7_common_2 : decode cX7_common 2 = .ok (.lcmp, 1) := by decide +kernel
theorem dX7_common_3 : decode cX7_common 3 = .ok (.ifCond .ge 8, 3) := by decide +kernel
theorem dX7_common_6 : decode cX7_common 6 = .ok (.lload_n 0, 1) := by decide +kernel
theorem dX7_common_7 : decode cX7_common 7 = .ok (.lneg, 1) := by decide +kernel
theorem dX7_common_8 : decode cX7_common 8 = .ok (.goto 4, 3) := by decide +kernel
theorem dX7_common_11 : decode cX7_common 11 = .ok (.lload_n 0, 1) := by decide +kernel
theorem dX7_common_12 : decode cX7_common 12 = .ok (.lstore 4, 2) := by decide +kernel
theorem dX7_common_14 : decode cX7_common 14 = .ok (.lload_n 2, 1) := by decide +kernel
theorem dX7_common_15 : decode cX7_common 15 = .ok (.lconst 0, 1) := by decide +kernel
theorem dX7_common_16 : decode cX7_common 16 = .ok (.lcmp, 1) := by decide +kernel
theorem dX7_common_17 : decode cX7_common 17 = .ok (.ifCond .ge 8, 3) := by decide +kernel
theorem dX7_common_20 : decode cX7_common 20 = .ok (.lload_n 2, 1) := by decide +kernel
theorem dX7_common_21 : decode cX7_common 21 = .ok (.lneg, 1) := by decide +kernel
theorem dX7_common_22 : decode cX7_common 22 = .ok (.goto 4, 3) := by decide +kernel
theorem dX7_common_25 : decode cX7_common 25 = .ok (.lload_n 2, 1) := by decide +kernel
theorem dX7_common_26 : decode cX7_common 26 = .ok (.lstore 6, 2) := by decide +kernel
theorem dX7_common_28 : decode cX7_common 28 = .ok (.lload 6, 2) := by decide +kernel
theorem dX7_common_30 : decode cX7_common 30 = .ok (.lconst 0, 1) := by decide +kernel
theorem dX7_common_31 : decode cX7_common 31 = .ok (.lcmp, 1) := by decide +kernel
theorem dX7_common_32 : decode cX7_common 32 = .ok (.ifCond .eq 21, 3) := by decide +kernel
theorem dX7_common_35 : decode cX7_common 35 = .ok (.lload 4, 2) := by decide +kernel
theorem dX7_common_37 : decode cX7_common 37 = .ok (.lload 6, 2) := by decide +kernel
theorem dX7_common_39 : decode cX7_common 39 = .ok (.lrem, 1) := by decide +kernel
theorem dX7_common_40 : decode cX7_common 40 = .ok (.lstore 8, 2) := by decide +kernel
theorem dX7_common_42 : decode cX7_common 42 = .ok (.lload 6, 2) := by decide +kernel
theorem dX7_common_44 : decode cX7_common 44 = .ok (.lstore 4, 2) := by decide +kernel
theorem dX7_common_46 : decode cX7_common 46 = .ok (.lload 8, 2) := by decide +kernel
theorem dX7_common_48 : decode cX7_common 48 = .ok (.lstore 6, 2) := by decide +kernel
theorem dX7_common_50 : decode cX7_common 50 = .ok (.goto (-22), 3) := by decide +kernel
theorem dX7_common_53 : decode cX7_common 53 = .ok (.lload 4, 2) := by decide +kernel
theorem dX7_common_55 : decode cX7_common 55 = .ok (.lreturn, 1) := by decide +kernel
theorem dX7_againstFour_0 : decode cX7_againstFour 0 = .ok (.lconst 0, 1) := by decide +kernel
theorem dX7_againstFour_1 : decode cX7_againstFour 1 = .ok (.lstore_n 1, 1) := by decide +kernel
theorem dX7_againstFour_2 : decode cX7_againstFour 2 = .ok (.lconst 0, 1) := by decide +kernel
theorem dX7_againstFour_3 : decode cX7_againstFour 3 = .ok (.lstore_n 3, 1) := by decide +kernel
theorem dX7_againstFour_4 : decode cX7_againstFour 4 = .ok (.iconst 0, 1) := by decide +kernel
theorem dX7_againstFour_5 : decode cX7_againstFour 5 = .ok (.istore 5, 2) := by decide +kernel
theorem dX7_againstFour_7 : decode cX7_againstFour 7 = .ok (.iconst 0, 1) := by decide +kernel
theorem dX7_againstFour_8 : decode cX7_againstFour 8 = .ok (.istore 6, 2) := by decide +kernel
theorem dX7_againstFour_10 : decode cX7_againstFour 10 = .ok (.iload 6, 2) := by decide +kernel
theorem dX7_againstFour_12 : decode cX7_againstFour 12 = .ok (.iconst 4, 1) := by decide +kernel
theorem dX7_againstFour_13 : decode cX7_againstFour 13 = .ok (.if_icmp .ge 27, 3) := by decide +kernel
theorem dX7_againstFour_16 : decode cX7_againstFour 16 = .ok (.aload_n 0, 1) := by decide +kernel
theorem dX7_againstFour_17 : decode cX7_againstFour 17 = .ok (.getfield 26, 3) := by decide +kernel
theorem dX7_againstFour_20 : decode cX7_againstFour 20 = .ok (.iconst 3, 1) := by decide +kernel
theorem dX7_againstFour_21 : decode cX7_againstFour 21 = .ok (.iload 6, 2) := by decide +kernel
theorem dX7_againstFour_23 : decode cX7_againstFour 23 = .ok (.imul, 1) := by decide +kernel
theorem dX7_againstFour_24 : decode cX7_againstFour 24 = .ok (.laload, 1) := by decide +kernel
theorem dX7_againstFour_25 : decode cX7_againstFour 25 = .ok (.invokestatic 90, 3) := by decide +kernel
theorem dX7_againstFour_28 : decode cX7_againstFour 28 = .ok (.ifCond .ne 6, 3) := by decide +kernel
theorem dX7_againstFour_31 : decode cX7_againstFour 31 = .ok (.bipush (-15), 2) := by decide +kernel
theorem dX7_againstFour_33 : decode cX7_againstFour 33 = .ok (.ireturn, 1) := by decide +kernel
theorem dX7_againstFour_34 : decode cX7_againstFour 34 = .ok (.iinc 6 1, 3) := by decide +kernel
theorem dX7_againstFour_37 : decode cX7_againstFour 37 = .ok (.goto (-27), 3) := by decide +kernel
theorem dX7_againstFour_40 : decode cX7_againstFour 40 = .ok (.iconst 0, 1) := by decide +kernel
theorem dX7_againstFour_41 : decode cX7_againstFour 41 = .ok (.istore 6, 2) := by decide +kernel
theorem dX7_againstFour_43 : decode cX7_againstFour 43 = .ok (.iload 6, 2) := by decide +kernel
theorem dX7_againstFour_45 : decode cX7_againstFour 45 = .ok (.iconst 4, 1) := by decide +kernel
theorem dX7_againstFour_46 : decode cX7_againstFour 46 = .ok (.if_icmp .ge 104, 3) := by decide +kernel
theorem dX7_againstFour_49 : decode cX7_againstFour 49 = .ok (.aload_n 0, 1) := by decide +kernel
theorem dX7_againstFour_50 : decode cX7_againstFour 50 = .ok (.getfield 26, 3) := by decide +kernel
theorem dX7_againstFour_53 : decode cX7_againstFour 53 = .ok (.iconst 3, 1) := by decide +kernel
theorem dX7_againstFour_54 : decode cX7_againstFour 54 = .ok (.iload 6, 2) := by decide +kernel
theorem dX7_againstFour_56 : decode cX7_againstFour 56 = .ok (.imul, 1) := by decide +kernel
theorem dX7_againstFour_57 : decode cX7_againstFour 57 = .ok (.iconst 1, 1) := by decide +kernel
theorem dX7_againstFour_58 : decode cX7_againstFour 58 = .ok (.iadd, 1) := by decide +kernel
theorem dX7_againstFour_59 : decode cX7_againstFour 59 = .ok (.laload, 1) := by decide +kernel
theorem dX7_againstFour_60 : decode cX7_againstFour 60 = .ok (.invokestatic 94, 3) := by decide +kernel
theorem dX7_againstFour_63 : decode cX7_againstFour 63 = .ok (.ifCond .eq 20, 3) := by decide +kernel
theorem dX7_againstFour_66 : decode cX7_againstFour 66 = .ok (.aload_n 0, 1) := by decide +kernel
theorem dX7_againstFour_67 : decode cX7_againstFour 67 = .ok (.getfield 26, 3) := by decide +kernel
theorem dX7_againstFour_70 : decode cX7_againstFour 70 = .ok (.iconst 3, 1) := by decide +kernel
theorem dX7_againstFour_71 : decode cX7_againstFour 71 = .ok (.iload 6, 2) := by decide +kernel
theorem dX7_againstFour_73 : decode cX7_againstFour 73 = .ok (.imul, 1) := by decide +kernel
theorem dX7_againstFour_74 : decode cX7_againstFour 74 = .ok (.iconst 2, 1) := by decide +kernel
theorem dX7_againstFour_75 : decode cX7_againstFour 75 = .ok (.iadd, 1) := by decide +kernel
theorem dX7_againstFour_76 : decode cX7_againstFour 76 = .ok (.laload, 1) := by decide +kernel
theorem dX7_againstFour_77 : decode cX7_againstFour 77 = .ok (.invokestatic 94, 3) := by decide +kernel
theorem dX7_againstFour_80 : decode cX7_againstFour 80 = .ok (.ifCond .ne 6, 3) := by decide +kernel
theorem dX7_againstFour_83 : decode cX7_againstFour 83 = .ok (.bipush (-16), 2) := by decide +kernel
theorem dX7_againstFour_85 : decode cX7_againstFour 85 = .ok (.ireturn, 1) := by decide +kernel
theorem dX7_againstFour_86 : decode cX7_againstFour 86 = .ok (.lload_n 1, 1) := by decide +kernel
theorem dX7_againstFour_87 : decode cX7_againstFour 87 = .ok (.aload_n 0, 1) := by decide +kernel
theorem dX7_againstFour_88 : decode cX7_againstFour 88 = .ok (.getfield 26, 3) := by decide +kernel
theorem dX7_againstFour_91 : decode cX7_againstFour 91 = .ok (.iconst 3, 1) := by decide +kernel
theorem dX7_againstFour_92 : decode cX7_againstFour 92 = .ok (.iload 6, 2) := by decide +kernel
theorem dX7_againstFour_94 : decode cX7_againstFour 94 = .ok (.imul, 1) := by decide +kernel
theorem dX7_againstFour_95 : decode cX7_againstFour 95 = .ok (.laload, 1) := by decide +kernel
theorem dX7_againstFour_96 : decode cX7_againstFour 96 = .ok (.ladd, 1) := by decide +kernel
theorem dX7_againstFour_97 : decode cX7_againstFour 97 = .ok (.lstore_n 1, 1) := by decide +kernel
theorem dX7_againstFour_98 : decode cX7_againstFour 98 = .ok (.lload_n 3, 1) := by decide +kernel
theorem dX7_againstFour_99 : decode cX7_againstFour 99 = .ok (.aload_n 0, 1) := by decide +kernel
theorem dX7_againstFour_100 : decode cX7_againstFour 100 = .ok (.getfield 26, 3) := by decide +kernel
theorem dX7_againstFour_103 : decode cX7_againstFour 103 = .ok (.iconst 3, 1) := by decide +kernel
theorem dX7_againstFour_104 : decode cX7_againstFour 104 = .ok (.iload 6, 2) := by decide +kernel
theorem dX7_againstFour_106 : decode cX7_againstFour 106 = .ok (.imul, 1) := by decide +kernel
theorem dX7_againstFour_107 : decode cX7_againstFour 107 = .ok (.laload, 1) := by decide +kernel
theorem dX7_againstFour_108 : decode cX7_againstFour 108 = .ok (.aload_n 0, 1) := by decide +kernel
theorem dX7_againstFour_109 : decode cX7_againstFour 109 = .ok (.getfield 26, 3) := by decide +kernel
theorem dX7_againstFour_112 : decode cX7_againstFour 112 = .ok (.iconst 3, 1) := by decide +kernel
theorem dX7_againstFour_113 : decode cX7_againstFour 113 = .ok (.iload 6, 2) := by decide +kernel
theorem dX7_againstFour_115 : decode cX7_againstFour 115 = .ok (.imul, 1) := by decide +kernel
theorem dX7_againstFour_116 : decode cX7_againstFour 116 = .ok (.laload, 1) := by decide +kernel
theorem dX7_againstFour_117 : decode cX7_againstFour 117 = .ok (.lmul, 1) := by decide +kernel
theorem dX7_againstFour_118 : decode cX7_againstFour 118 = .ok (.ladd, 1) := by decide +kernel
theorem dX7_againstFour_119 : decode cX7_againstFour 119 = .ok (.lstore_n 3, 1) := by decide +kernel
theorem dX7_againstFour_120 : decode cX7_againstFour 120 = .ok (.iload 5, 2) := by decide +kernel
theorem dX7_againstFour_122 : decode cX7_againstFour 122 = .ok (.aload_n 0, 1) := by decide +kernel
theorem dX7_againstFour_123 : decode cX7_againstFour 123 = .ok (.getfield 26, 3) := by decide +kernel
theorem dX7_againstFour_126 : decode cX7_againstFour 126 = .ok (.iconst 3, 1) := by decide +kernel
theorem dX7_againstFour_127 : decode cX7_againstFour 127 = .ok (.iload 6, 2) := by decide +kernel
theorem dX7_againstFour_129 : decode cX7_againstFour 129 = .ok (.imul, 1) := by decide +kernel
theorem dX7_againstFour_130 : decode cX7_againstFour 130 = .ok (.laload, 1) := by decide +kernel
theorem dX7_againstFour_131 : decode cX7_againstFour 131 = .ok (.lconst 0, 1) := by decide +kernel
theorem dX7_againstFour_132 : decode cX7_againstFour 132 = .ok (.lcmp, 1) := by decide +kernel
theorem dX7_againstFour_133 : decode cX7_againstFour 133 = .ok (.ifCond .ge 7, 3) := by decide +kernel
theorem dX7_againstFour_136 : decode cX7_againstFour 136 = .ok (.iconst 1, 1) := by decide +kernel
theorem dX7_againstFour_137 : decode cX7_againstFour 137 = .ok (.goto 4, 3) := by decide +kernel
theorem dX7_againstFour_140 : decode cX7_againstFour 140 = .ok (.iconst 0, 1) := by decide +kernel
theorem dX7_againstFour_141 : decode cX7_againstFour 141 = .ok (.iadd, 1) := by decide +kernel
theorem dX7_againstFour_142 : decode cX7_againstFour 142 = .ok (.istore 5, 2) := by decide +kernel
theorem dX7_againstFour_144 : decode cX7_againstFour 144 = .ok (.iinc 6 1, 3) := by decide +kernel
theorem dX7_againstFour_147 : decode cX7_againstFour 147 = .ok (.goto (-104), 3) := by decide +kernel
theorem dX7_againstFour_150 : decode cX7_againstFour 150 = .ok (.ldc2_w 73, 3) := by decide +kernel
theorem dX7_againstFour_153 : decode cX7_againstFour 153 = .ok (.lload_n 3, 1) := by decide +kernel
theorem dX7_againstFour_154 : decode cX7_againstFour 154 = .ok (.lmul, 1) := by decide +kernel
theorem dX7_againstFour_155 : decode cX7_againstFour 155 = .ok (.lload_n 1, 1) := by decide +kernel
theorem dX7_againstFour_156 : decode cX7_againstFour 156 = .ok (.lload_n 1, 1) := by decide +kernel
theorem dX7_againstFour_157 : decode cX7_againstFour 157 = .ok (.lmul, 1) := by decide +kernel
theorem dX7_againstFour_158 : decode cX7_againstFour 158 = .ok (.lcmp, 1) := by decide +kernel
theorem dX7_againstFour_159 : decode cX7_againstFour 159 = .ok (.ifCond .ne 9, 3) := by decide +kernel
theorem dX7_againstFour_162 : decode cX7_againstFour 162 = .ok (.lload_n 1, 1) := by decide +kernel
theorem dX7_againstFour_163 : decode cX7_againstFour 163 = .ok (.lconst 0, 1) := by decide +kernel
theorem dX7_againstFour_164 : decode cX7_againstFour 164 = .ok (.lcmp, 1) := by decide +kernel
theorem dX7_againstFour_165 : decode cX7_againstFour 165 = .ok (.ifCond .gt 6, 3) := by decide +kernel
theorem dX7_againstFour_168 : decode cX7_againstFour 168 = .ok (.bipush (-17), 2) := by decide +kernel
theorem dX7_againstFour_170 : decode cX7_againstFour 170 = .ok (.ireturn, 1) := by decide +kernel
theorem dX7_againstFour_171 : decode cX7_againstFour 171 = .ok (.iload 5, 2) := by decide +kernel
theorem dX7_againstFour_173 : decode cX7_againstFour 173 = .ok (.iconst 1, 1) := by decide +kernel
theorem dX7_againstFour_174 : decode cX7_againstFour 174 = .ok (.if_icmp .le 6, 3) := by decide +kernel
theorem dX7_againstFour_177 : decode cX7_againstFour 177 = .ok (.bipush (-18), 2) := by decide +kernel
theorem dX7_againstFour_179 : decode cX7_againstFour 179 = .ok (.ireturn, 1) := by decide +kernel
theorem dX7_againstFour_180 : decode cX7_againstFour 180 = .ok (.aload_n 0, 1) := by decide +kernel
theorem dX7_againstFour_181 : decode cX7_againstFour 181 = .ok (.getfield 26, 3) := by decide +kernel
theorem dX7_againstFour_184 : decode cX7_againstFour 184 = .ok (.iconst 0, 1) := by decide +kernel
theorem dX7_againstFour_185 : decode cX7_againstFour 185 = .ok (.laload, 1) := by decide +kernel
theorem dX7_againstFour_186 : decode cX7_againstFour 186 = .ok (.aload_n 0, 1) := by decide +kernel
theorem dX7_againstFour_187 : decode cX7_againstFour 187 = .ok (.getfield 26, 3) := by decide +kernel
theorem dX7_againstFour_190 : decode cX7_againstFour 190 = .ok (.iconst 3, 1) := by decide +kernel
theorem dX7_againstFour_191 : decode cX7_againstFour 191 = .ok (.laload, 1) := by decide +kernel
theorem dX7_againstFour_192 : decode cX7_againstFour 192 = .ok (.invokestatic 97, 3) := by decide +kernel
theorem dX7_againstFour_195 : decode cX7_againstFour 195 = .ok (.aload_n 0, 1) := by decide +kernel
theorem dX7_againstFour_196 : decode cX7_againstFour 196 = .ok (.getfield 26, 3) := by decide +kernel
theorem dX7_againstFour_199 : decode cX7_againstFour 199 = .ok (.bipush 6, 2) := by decide +kernel
theorem dX7_againstFour_201 : decode cX7_againstFour 201 = .ok (.laload, 1) := by decide +kernel
theorem dX7_againstFour_202 : decode cX7_againstFour 202 = .ok (.aload_n 0, 1) := by decide +kernel
theorem dX7_againstFour_203 : decode cX7_againstFour 203 = .ok (.getfield 26, 3) := by decide +kernel
theorem dX7_againstFour_206 : decode cX7_againstFour 206 = .ok (.bipush 9, 2) := by decide +kernel
theorem dX7_againstFour_208 : decode cX7_againstFour 208 = .ok (.laload, 1) := by decide +kernel
theorem dX7_againstFour_209 : decode cX7_againstFour 209 = .ok (.invokestatic 97, 3) := by decide +kernel
theorem dX7_againstFour_212 : decode cX7_againstFour 212 = .ok (.invokestatic 97, 3) := by decide +kernel
theorem dX7_againstFour_215 : decode cX7_againstFour 215 = .ok (.lconst 1, 1) := by decide +kernel
theorem dX7_againstFour_216 : decode cX7_againstFour 216 = .ok (.lcmp, 1) := by decide +kernel
theorem dX7_againstFour_217 : decode cX7_againstFour 217 = .ok (.ifCond .le 6, 3) := by decide +kernel
theorem dX7_againstFour_220 : decode cX7_againstFour 220 = .ok (.bipush (-19), 2) := by decide +kernel
theorem dX7_againstFour_222 : decode cX7_againstFour 222 = .ok (.ireturn, 1) := by decide +kernel
theorem dX7_againstFour_223 : decode cX7_againstFour 223 = .ok (.iconst 0, 1) := by decide +kernel
theorem dX7_againstFour_224 : decode cX7_againstFour 224 = .ok (.istore 6, 2) := by decide +kernel
theorem dX7_againstFour_226 : decode cX7_againstFour 226 = .ok (.iload 6, 2) := by decide +kernel
theorem dX7_againstFour_228 : decode cX7_againstFour 228 = .ok (.iconst 4, 1) := by decide +kernel
theorem dX7_againstFour_229 : decode cX7_againstFour 229 = .ok (.if_icmp .ge 96, 3) := by decide +kernel
theorem dX7_againstFour_232 : decode cX7_againstFour 232 = .ok (.iconst 0, 1) := by decide +kernel
theorem dX7_againstFour_233 : decode cX7_againstFour 233 = .ok (.istore 7, 2) := by decide +kernel
theorem dX7_againstFour_235 : decode cX7_againstFour 235 = .ok (.iload 7, 2) := by decide +kernel
theorem dX7_againstFour_237 : decode cX7_againstFour 237 = .ok (.iload 6, 2) := by decide +kernel
theorem dX7_againstFour_239 : decode cX7_againstFour 239 = .ok (.if_icmp .ge 80, 3) := by decide +kernel
theorem dX7_againstFour_242 : decode cX7_againstFour 242 = .ok (.aload_n 0, 1) := by decide +kernel
theorem dX7_againstFour_243 : decode cX7_againstFour 243 = .ok (.getfield 26, 3) := by decide +kernel
theorem dX7_againstFour_246 : decode cX7_againstFour 246 = .ok (.iconst 3, 1) := by decide +kernel
theorem dX7_againstFour_247 : decode cX7_againstFour 247 = .ok (.iload 6, 2) := by decide +kernel
theorem dX7_againstFour_249 : decode cX7_againstFour 249 = .ok (.imul, 1) := by decide +kernel
theorem dX7_againstFour_250 : decode cX7_againstFour 250 = .ok (.laload, 1) := by decide +kernel
theorem dX7_againstFour_251 : decode cX7_againstFour 251 = .ok (.aload_n 0, 1) := by decide +kernel
theorem dX7_againstFour_252 : decode cX7_againstFour 252 = .ok (.getfield 26, 3) := by decide +kernel
theorem dX7_againstFour_255 : decode cX7_againstFour 255 = .ok (.iconst 3, 1) := by decide +kernel
theorem dX7_againstFour_256 : decode cX7_againstFour 256 = .ok (.iload 6, 2) := by decide +kernel
theorem dX7_againstFour_258 : decode cX7_againstFour 258 = .ok (.imul, 1) := by decide +kernel
theorem dX7_againstFour_259 : decode cX7_againstFour 259 = .ok (.iconst 1, 1) := by decide +kernel
theorem dX7_againstFour_260 : decode cX7_againstFour 260 = .ok (.iadd, 1) := by decide +kernel
theorem dX7_againstFour_261 : decode cX7_againstFour 261 = .ok (.laload, 1) := by decide +kernel
theorem dX7_againstFour_262 : decode cX7_againstFour 262 = .ok (.aload_n 0, 1) := by decide +kernel
theorem dX7_againstFour_263 : decode cX7_againstFour 263 = .ok (.getfield 26, 3) := by decide +kernel
theorem dX7_againstFour_266 : decode cX7_againstFour 266 = .ok (.iconst 3, 1) := by decide +kernel
theorem dX7_againstFour_267 : decode cX7_againstFour 267 = .ok (.iload 6, 2) := by decide +kernel
theorem dX7_againstFour_269 : decode cX7_againstFour 269 = .ok (.imul, 1) := by decide +kernel
theorem dX7_againstFour_270 : decode cX7_againstFour 270 = .ok (.iconst 2, 1) := by decide +kernel
theorem dX7_againstFour_271 : decode cX7_againstFour 271 = .ok (.iadd, 1) := by decide +kernel
theorem dX7_againstFour_272 : decode cX7_againstFour 272 = .ok (.laload, 1) := by decide +kernel
theorem dX7_againstFour_273 : decode cX7_againstFour 273 = .ok (.aload_n 0, 1) := by decide +kernel
theorem dX7_againstFour_274 : decode cX7_againstFour 274 = .ok (.getfield 26, 3) := by decide +kernel
theorem dX7_againstFour_277 : decode cX7_againstFour 277 = .ok (.iconst 3, 1) := by decide +kernel
theorem dX7_againstFour_278 : decode cX7_againstFour 278 = .ok (.iload 7, 2) := by decide +kernel
theorem dX7_againstFour_280 : decode cX7_againstFour 280 = .ok (.imul, 1) := by decide +kernel
theorem dX7_againstFour_281 : decode cX7_againstFour 281 = .ok (.laload, 1) := by decide +kernel
theorem dX7_againstFour_282 : decode cX7_againstFour 282 = .ok (.aload_n 0, 1) := by decide +kernel
theorem dX7_againstFour_283 : decode cX7_againstFour 283 = .ok (.getfield 26, 3) := by decide +kernel
theorem dX7_againstFour_286 : decode cX7_againstFour 286 = .ok (.iconst 3, 1) := by decide +kernel
theorem dX7_againstFour_287 : decode cX7_againstFour 287 = .ok (.iload 7, 2) := by decide +kernel
theorem dX7_againstFour_289 : decode cX7_againstFour 289 = .ok (.imul, 1) := by decide +kernel
theorem dX7_againstFour_290 : decode cX7_againstFour 290 = .ok (.iconst 1, 1) := by decide +kernel
theorem dX7_againstFour_291 : decode cX7_againstFour 291 = .ok (.iadd, 1) := by decide +kernel
theorem dX7_againstFour_292 : decode cX7_againstFour 292 = .ok (.laload, 1) := by decide +kernel
theorem dX7_againstFour_293 : decode cX7_againstFour 293 = .ok (.aload_n 0, 1) := by decide +kernel
theorem dX7_againstFour_294 : decode cX7_againstFour 294 = .ok (.getfield 26, 3) := by decide +kernel
theorem dX7_againstFour_297 : decode cX7_againstFour 297 = .ok (.iconst 3, 1) := by decide +kernel
theorem dX7_againstFour_298 : decode cX7_againstFour 298 = .ok (.iload 7, 2) := by decide +kernel
theorem dX7_againstFour_300 : decode cX7_againstFour 300 = .ok (.imul, 1) := by decide +kernel
theorem dX7_againstFour_301 : decode cX7_againstFour 301 = .ok (.iconst 2, 1) := by decide +kernel
theorem dX7_againstFour_302 : decode cX7_againstFour 302 = .ok (.iadd, 1) := by decide +kernel
theorem dX7_againstFour_303 : decode cX7_againstFour 303 = .ok (.laload, 1) := by decide +kernel
theorem dX7_againstFour_304 : decode cX7_againstFour 304 = .ok (.invokestatic 101, 3) := by decide +kernel
theorem dX7_againstFour_307 : decode cX7_againstFour 307 = .ok (.ifCond .ne 6, 3) := by decide +kernel
theorem dX7_againstFour_310 : decode cX7_againstFour 310 = .ok (.bipush (-20), 2) := by decide +kernel
theorem dX7_againstFour_312 : decode cX7_againstFour 312 = .ok (.ireturn, 1) := by decide +kernel
theorem dX7_againstFour_313 : decode cX7_againstFour 313 = .ok (.iinc 7 1, 3) := by decide +kernel
theorem dX7_againstFour_316 : decode cX7_againstFour 316 = .ok (.goto (-81), 3) := by decide +kernel
theorem dX7_againstFour_319 : decode cX7_againstFour 319 = .ok (.iinc 6 1, 3) := by decide +kernel
theorem dX7_againstFour_322 : decode cX7_againstFour 322 = .ok (.goto (-96), 3) := by decide +kernel
theorem dX7_againstFour_325 : decode cX7_againstFour 325 = .ok (.iconst 0, 1) := by decide +kernel
theorem dX7_againstFour_326 : decode cX7_againstFour 326 = .ok (.ireturn, 1) := by decide +kernel
theorem dX7_newQuad_0 : decode cX7_newQuad 0 = .ok (.iconst 0, 1) := by decide +kernel
theorem dX7_newQuad_1 : decode cX7_newQuad 1 = .ok (.istore_n 2, 1) := by decide +kernel
theorem dX7_newQuad_2 : decode cX7_newQuad 2 = .ok (.iload_n 2, 1) := by decide +kernel
theorem dX7_newQuad_3 : decode cX7_newQuad 3 = .ok (.bipush 12, 2) := by decide +kernel
theorem dX7_newQuad_5 : decode cX7_newQuad 5 = .ok (.if_icmp .ge 30, 3) := by decide +kernel
theorem dX7_newQuad_8 : decode cX7_newQuad 8 = .ok (.aload_n 0, 1) := by decide +kernel
theorem dX7_newQuad_9 : decode cX7_newQuad 9 = .ok (.getfield 23, 3) := by decide +kernel
theorem dX7_newQuad_12 : decode cX7_newQuad 12 = .ok (.bipush 12, 2) := by decide +kernel
theorem dX7_newQuad_14 : decode cX7_newQuad 14 = .ok (.aload_n 0, 1) := by decide +kernel
theorem dX7_newQuad_15 : decode cX7_newQuad 15 = .ok (.getfield 79, 3) := by decide +kernel
theorem dX7_newQuad_18 : decode cX7_newQuad 18 = .ok (.imul, 1) := by decide +kernel
theorem dX7_newQuad_19 : decode cX7_newQuad 19 = .ok (.iload_n 2, 1) := by decide +kernel
theorem dX7_newQuad_20 : decode cX7_newQuad 20 = .ok (.iadd, 1) := by decide +kernel
theorem dX7_newQuad_21 : decode cX7_newQuad 21 = .ok (.aload_n 0, 1) := by decide +kernel
theorem dX7_newQuad_22 : decode cX7_newQuad 22 = .ok (.getfield 26, 3) := by decide +kernel
theorem dX7_newQuad_25 : decode cX7_newQuad 25 = .ok (.iload_n 2, 1) := by decide +kernel
theorem dX7_newQuad_26 : decode cX7_newQuad 26 = .ok (.laload, 1) := by decide +kernel
theorem dX7_newQuad_27 : decode cX7_newQuad 27 = .ok (.l2i, 1) := by decide +kernel
theorem dX7_newQuad_28 : decode cX7_newQuad 28 = .ok (.iastore, 1) := by decide +kernel
theorem dX7_newQuad_29 : decode cX7_newQuad 29 = .ok (.iinc 2 1, 3) := by decide +kernel
theorem dX7_newQuad_32 : decode cX7_newQuad 32 = .ok (.goto (-30), 3) := by decide +kernel
theorem dX7_newQuad_35 : decode cX7_newQuad 35 = .ok (.aload_n 0, 1) := by decide +kernel
theorem dX7_newQuad_36 : decode cX7_newQuad 36 = .ok (.getfield 20, 3) := by decide +kernel
theorem dX7_newQuad_39 : decode cX7_newQuad 39 = .ok (.aload_n 0, 1) := by decide +kernel
theorem dX7_newQuad_40 : decode cX7_newQuad 40 = .ok (.getfield 79, 3) := by decide +kernel
theorem dX7_newQuad_43 : decode cX7_newQuad 43 = .ok (.iload_n 1, 1) := by decide +kernel
theorem dX7_newQuad_44 : decode cX7_newQuad 44 = .ok (.iastore, 1) := by decide +kernel
theorem dX7_newQuad_45 : decode cX7_newQuad 45 = .ok (.aload_n 0, 1) := by decide +kernel
theorem dX7_newQuad_46 : decode cX7_newQuad 46 = .ok (.dup, 1) := by decide +kernel
theorem dX7_newQuad_47 : decode cX7_newQuad 47 = .ok (.getfield 79, 3) := by decide +kernel
theorem dX7_newQuad_50 : decode cX7_newQuad 50 = .ok (.iconst 1, 1) := by decide +kernel
theorem dX7_newQuad_51 : decode cX7_newQuad 51 = .ok (.iadd, 1) := by decide +kernel
theorem dX7_newQuad_52 : decode cX7_newQuad 52 = .ok (.putfield 79, 3) := by decide +kernel
theorem dX7_newQuad_55 : decode cX7_newQuad 55 = .ok (.aload_n 0, 1) := by decide +kernel
theorem dX7_newQuad_56 : decode cX7_newQuad 56 = .ok (.getfield 79, 3) := by decide +kernel
theorem dX7_newQuad_59 : decode cX7_newQuad 59 = .ok (.iconst 1, 1) := by decide +kernel
theorem dX7_newQuad_60 : decode cX7_newQuad 60 = .ok (.isub, 1) := by decide +kernel
theorem dX7_newQuad_61 : decode cX7_newQuad 61 = .ok (.ireturn, 1) := by decide +kernel
theorem dX7_quad_0 : decode cX7_quad 0 = .ok (.iload_n 1, 1) := by decide +kernel
theorem dX7_quad_1 : decode cX7_quad 1 = .ok (.invokestatic 67, 3) := by decide +kernel
theorem dX7_quad_4 : decode cX7_quad 4 = .ok (.ifCond .ne 5, 3) := by decide +kernel
theorem dX7_quad_7 : decode cX7_quad 7 = .ok (.iconst (-1), 1) := by decide +kernel
theorem dX7_quad_8 : decode cX7_quad 8 = .ok (.ireturn, 1) := by decide +kernel
theorem dX7_quad_9 : decode cX7_quad 9 = .ok (.aload_n 0, 1) := by decide +kernel
theorem dX7_quad_10 : decode cX7_quad 10 = .ok (.getfield 7, 3) := by decide +kernel
theorem dX7_quad_13 : decode cX7_quad 13 = .ok (.iload_n 1, 1) := by decide +kernel
theorem dX7_quad_14 : decode cX7_quad 14 = .ok (.iaload, 1) := by decide +kernel
theorem dX7_quad_15 : decode cX7_quad 15 = .ok (.ifCond .ge 6, 3) := by decide +kernel
theorem dX7_quad_18 : decode cX7_quad 18 = .ok (.bipush (-11), 2) := by decide +kernel
theorem dX7_quad_20 : decode cX7_quad 20 = .ok (.ireturn, 1) := by decide +kernel
theorem dX7_quad_21 : decode cX7_quad 21 = .ok (.iload_n 2, 1) := by decide +kernel
theorem dX7_quad_22 : decode cX7_quad 22 = .ok (.ifCond .lt 20, 3) := by decide +kernel
theorem dX7_quad_25 : decode cX7_quad 25 = .ok (.iload_n 2, 1) := by decide +kernel
theorem dX7_quad_26 : decode cX7_quad 26 = .ok (.i2l, 1) := by decide +kernel
theorem dX7_quad_27 : decode cX7_quad 27 = .ok (.ldc2_w 105, 3) := by decide +kernel
theorem dX7_quad_30 : decode cX7_quad 30 = .ok (.ladd, 1) := by decide +kernel
theorem dX7_quad_31 : decode cX7_quad 31 = .ok (.aload_n 0, 1) := by decide +kernel
theorem dX7_quad_32 : decode cX7_quad 32 = .ok (.getfield 13, 3) := by decide +kernel
theorem dX7_quad_35 : decode cX7_quad 35 = .ok (.iload_n 1, 1) := by decide +kernel
theorem dX7_quad_36 : decode cX7_quad 36 = .ok (.iaload, 1) := by decide +kernel
theorem dX7_quad_37 : decode cX7_quad 37 = .ok (.i2l, 1) := by decide +kernel
theorem dX7_quad_38 : decode cX7_quad 38 = .ok (.lcmp, 1) := by decide +kernel
theorem dX7_quad_39 : decode cX7_quad 39 = .ok (.ifCond .le 6, 3) := by decide +kernel
theorem dX7_quad_42 : decode cX7_quad 42 = .ok (.bipush (-12), 2) := by decide +kernel
theorem dX7_quad_44 : decode cX7_quad 44 = .ok (.ireturn, 1) := by decide +kernel
theorem dX7_quad_45 : decode cX7_quad 45 = .ok (.iconst 0, 1) := by decide +kernel
theorem dX7_quad_46 : decode cX7_quad 46 = .ok (.istore_n 3, 1) := by decide +kernel
theorem dX7_quad_47 : decode cX7_quad 47 = .ok (.iload_n 3, 1) := by decide +kernel
theorem dX7_quad_48 : decode cX7_quad 48 = .ok (.iconst 4, 1) := by decide +kernel
theorem dX7_quad_49 : decode cX7_quad 49 = .ok (.if_icmp .ge 53, 3) := by decide +kernel
theorem dX7_quad_52 : decode cX7_quad 52 = .ok (.iconst 0, 1) := by decide +kernel
theorem dX7_quad_53 : decode cX7_quad 53 = .ok (.istore 4, 2) := by decide +kernel
theorem dX7_quad_55 : decode cX7_quad 55 = .ok (.iload 4, 2) := by decide +kernel
theorem dX7_quad_57 : decode cX7_quad 57 = .ok (.iconst 3, 1) := by decide +kernel
theorem dX7_quad_58 : decode cX7_quad 58 = .ok (.if_icmp .ge 38, 3) := by decide +kernel
theorem dX7_quad_61 : decode cX7_quad 61 = .ok (.aload_n 0, 1) := by decide +kernel
theorem dX7_quad_62 : decode cX7_quad 62 = .ok (.getfield 26, 3) := by decide +kernel
theorem dX7_quad_65 : decode cX7_quad 65 = .ok (.iconst 3, 1) := by decide +kernel
theorem dX7_quad_66 : decode cX7_quad 66 = .ok (.iload_n 3, 1) := by decide +kernel
theorem dX7_quad_67 : decode cX7_quad 67 = .ok (.imul, 1) := by decide +kernel
theorem dX7_quad_68 : decode cX7_quad 68 = .ok (.iload 4, 2) := by decide +kernel
theorem dX7_quad_70 : decode cX7_quad 70 = .ok (.iadd, 1) := by decide +kernel
theorem dX7_quad_71 : decode cX7_quad 71 = .ok (.aload_n 0, 1) := by decide +kernel
theorem dX7_quad_72 : decode cX7_quad 72 = .ok (.getfield 16, 3) := by decide +kernel
theorem dX7_quad_75 : decode cX7_quad 75 = .ok (.bipush 24, 2) := by decide +kernel
theorem dX7_quad_77 : decode cX7_quad 77 = .ok (.iload_n 1, 1) := by decide +kernel
theorem dX7_quad_78 : decode cX7_quad 78 = .ok (.imul, 1) := by decide +kernel
theorem dX7_quad_79 : decode cX7_quad 79 = .ok (.iload_n 2, 1) := by decide +kernel
theorem dX7_quad_80 : decode cX7_quad 80 = .ok (.iadd, 1) := by decide +kernel
theorem dX7_quad_81 : decode cX7_quad 81 = .ok (.iconst 4, 1) := by decide +kernel
theorem dX7_quad_82 : decode cX7_quad 82 = .ok (.iload 4, 2) := by decide +kernel
theorem dX7_quad_84 : decode cX7_quad 84 = .ok (.imul, 1) := by decide +kernel
theorem dX7_quad_85 : decode cX7_quad 85 = .ok (.iadd, 1) := by decide +kernel
theorem dX7_quad_86 : decode cX7_quad 86 = .ok (.iload_n 3, 1) := by decide +kernel
theorem dX7_quad_87 : decode cX7_quad 87 = .ok (.iadd, 1) := by decide +kernel
theorem dX7_quad_88 : decode cX7_quad 88 = .ok (.laload, 1) := by decide +kernel
theorem dX7_quad_89 : decode cX7_quad 89 = .ok (.lastore, 1) := by decide +kernel
theorem dX7_quad_90 : decode cX7_quad 90 = .ok (.iinc 4 1, 3) := by decide +kernel
theorem dX7_quad_93 : decode cX7_quad 93 = .ok (.goto (-38), 3) := by decide +kernel
theorem dX7_quad_96 : decode cX7_quad 96 = .ok (.iinc 3 1, 3) := by decide +kernel
theorem dX7_quad_99 : decode cX7_quad 99 = .ok (.goto (-52), 3) := by decide +kernel
theorem dX7_quad_102 : decode cX7_quad 102 = .ok (.aload_n 0, 1) := by decide +kernel
theorem dX7_quad_103 : decode cX7_quad 103 = .ok (.invokevirtual 107, 3) := by decide +kernel
theorem dX7_quad_106 : decode cX7_quad 106 = .ok (.istore_n 3, 1) := by decide +kernel
theorem dX7_quad_107 : decode cX7_quad 107 = .ok (.iload_n 3, 1) := by decide +kernel
theorem dX7_quad_108 : decode cX7_quad 108 = .ok (.ifCond .eq 7, 3) := by decide +kernel
theorem dX7_quad_111 : decode cX7_quad 111 = .ok (.iload_n 3, 1) := by decide +kernel
theorem dX7_quad_112 : decode cX7_quad 112 = .ok (.goto 23, 3) := by decide +kernel
theorem dX7_quad_115 : decode cX7_quad 115 = .ok (.aload_n 0, 1) := by decide +kernel
theorem dX7_quad_116 : decode cX7_quad 116 = .ok (.getfield 79, 3) := by decide +kernel
theorem dX7_quad_119 : decode cX7_quad 119 = .ok (.bipush 60, 2) := by decide +kernel
theorem dX7_quad_121 : decode cX7_quad 121 = .ok (.if_icmp .ne 8, 3) := by decide +kernel
theorem dX7_quad_124 : decode cX7_quad 124 = .ok (.bipush (-2), 2) := by decide +kernel
theorem dX7_quad_126 : decode cX7_quad 126 = .ok (.goto 9, 3) := by decide +kernel
theorem dX7_quad_129 : decode cX7_quad 129 = .ok (.aload_n 0, 1) := by decide +kernel
theorem dX7_quad_130 : decode cX7_quad 130 = .ok (.bipush (-3), 2) := by decide +kernel
theorem dX7_quad_132 : decode cX7_quad 132 = .ok (.invokevirtual 111, 3) := by decide +kernel
theorem dX7_quad_135 : decode cX7_quad 135 = .ok (.ireturn, 1) := by decide +kernel
theorem dX7_take_0 : decode cX7_take 0 = .ok (.iconst 0, 1) := by decide +kernel
theorem dX7_take_1 : decode cX7_take 1 = .ok (.istore_n 2, 1) := by decide +kernel
theorem dX7_take_2 : decode cX7_take 2 = .ok (.iload_n 2, 1) := by decide +kernel
theorem dX7_take_3 : decode cX7_take 3 = .ok (.bipush 12, 2) := by decide +kernel
theorem dX7_take_5 : decode cX7_take 5 = .ok (.if_icmp .ge 27, 3) := by decide +kernel
theorem dX7_take_8 : decode cX7_take 8 = .ok (.aload_n 0, 1) := by decide +kernel
theorem dX7_take_9 : decode cX7_take 9 = .ok (.getfield 26, 3) := by decide +kernel
theorem dX7_take_12 : decode cX7_take 12 = .ok (.iload_n 2, 1) := by decide +kernel
theorem dX7_take_13 : decode cX7_take 13 = .ok (.aload_n 0, 1) := by decide +kernel
theorem dX7_take_14 : decode cX7_take 14 = .ok (.getfield 23, 3) := by decide +kernel
theorem dX7_take_17 : decode cX7_take 17 = .ok (.bipush 12, 2) := by decide +kernel
theorem dX7_take_19 : decode cX7_take 19 = .ok (.iload_n 1, 1) := by decide +kernel
theorem dX7_take_20 : decode cX7_take 20 = .ok (.imul, 1) := by decide +kernel
theorem dX7_take_21 : decode cX7_take 21 = .ok (.iload_n 2, 1) := by decide +kernel
theorem dX7_take_22 : decode cX7_take 22 = .ok (.iadd, 1) := by decide +kernel
theorem dX7_take_23 : decode cX7_take 23 = .ok (.iaload, 1) := by decide +kernel
theorem dX7_take_24 : decode cX7_take 24 = .ok (.i2l, 1) := by decide +kernel
theorem dX7_take_25 : decode cX7_take 25 = .ok (.lastore, 1) := by decide +kernel
theorem dX7_take_26 : decode cX7_take 26 = .ok (.iinc 2 1, 3) := by decide +kernel
theorem dX7_take_29 : decode cX7_take 29 = .ok (.goto (-27), 3) := by decide +kernel
theorem dX7_take_32 : decode cX7_take 32 = .ok (.return_, 1) := by decide +kernel
theorem dX7_swapAt_0 : decode cX7_swapAt 0 = .ok (.iconst 0, 1) := by decide +kernel
theorem dX7_swapAt_1 : decode cX7_swapAt 1 = .ok (.istore_n 2, 1) := by decide +kernel
theorem dX7_swapAt_2 : decode cX7_swapAt 2 = .ok (.iload_n 2, 1) := by decide +kernel
theorem dX7_swapAt_3 : decode cX7_swapAt 3 = .ok (.iconst 3, 1) := by decide +kernel
theorem dX7_swapAt_4 : decode cX7_swapAt 4 = .ok (.if_icmp .ge 82, 3) := by decide +kernel
theorem dX7_swapAt_7 : decode cX7_swapAt 7 = .ok (.aload_n 0, 1) := by decide +kernel
theorem dX7_swapAt_8 : decode cX7_swapAt 8 = .ok (.getfield 26, 3) := by decide +kernel
theorem dX7_swapAt_11 : decode cX7_swapAt 11 = .ok (.iload_n 2, 1) := by decide +kernel
theorem dX7_swapAt_12 : decode cX7_swapAt 12 = .ok (.laload, 1) := by decide +kernel
theorem dX7_swapAt_13 : decode cX7_swapAt 13 = .ok (.aload_n 0, 1) := by decide +kernel
theorem dX7_swapAt_14 : decode cX7_swapAt 14 = .ok (.getfield 26, 3) := by decide +kernel
theorem dX7_swapAt_17 : decode cX7_swapAt 17 = .ok (.iconst 3, 1) := by decide +kernel
theorem dX7_swapAt_18 : decode cX7_swapAt 18 = .ok (.iload_n 2, 1) := by decide +kernel
theorem dX7_swapAt_19 : decode cX7_swapAt 19 = .ok (.iadd, 1) := by decide +kernel
theorem dX7_swapAt_20 : decode cX7_swapAt 20 = .ok (.laload, 1) := by decide +kernel
theorem dX7_swapAt_21 : decode cX7_swapAt 21 = .ok (.ladd, 1) := by decide +kernel
theorem dX7_swapAt_22 : decode cX7_swapAt 22 = .ok (.aload_n 0, 1) := by decide +kernel
theorem dX7_swapAt_23 : decode cX7_swapAt 23 = .ok (.getfield 26, 3) := by decide +kernel
theorem dX7_swapAt_26 : decode cX7_swapAt 26 = .ok (.bipush 6, 2) := by decide +kernel
theorem dX7_swapAt_28 : decode cX7_swapAt 28 = .ok (.iload_n 2, 1) := by decide +kernel
theorem dX7_swapAt_29 : decode cX7_swapAt 29 = .ok (.iadd, 1) := by decide +kernel
theorem dX7_swapAt_30 : decode cX7_swapAt 30 = .ok (.laload, 1) := by decide +kernel
theorem dX7_swapAt_31 : decode cX7_swapAt 31 = .ok (.ladd, 1) := by decide +kernel
theorem dX7_swapAt_32 : decode cX7_swapAt 32 = .ok (.aload_n 0, 1) := by decide +kernel
theorem dX7_swapAt_33 : decode cX7_swapAt 33 = .ok (.getfield 26, 3) := by decide +kernel
theorem dX7_swapAt_36 : decode cX7_swapAt 36 = .ok (.bipush 9, 2) := by decide +kernel
theorem dX7_swapAt_38 : decode cX7_swapAt 38 = .ok (.iload_n 2, 1) := by decide +kernel
theorem dX7_swapAt_39 : decode cX7_swapAt 39 = .ok (.iadd, 1) := by decide +kernel
theorem dX7_swapAt_40 : decode cX7_swapAt 40 = .ok (.laload, 1) := by decide +kernel
theorem dX7_swapAt_41 : decode cX7_swapAt 41 = .ok (.ladd, 1) := by decide +kernel
theorem dX7_swapAt_42 : decode cX7_swapAt 42 = .ok (.lstore_n 3, 1) := by decide +kernel
theorem dX7_swapAt_43 : decode cX7_swapAt 43 = .ok (.aload_n 0, 1) := by decide +kernel
theorem dX7_swapAt_44 : decode cX7_swapAt 44 = .ok (.getfield 26, 3) := by decide +kernel
theorem dX7_swapAt_47 : decode cX7_swapAt 47 = .ok (.iconst 3, 1) := by decide +kernel
theorem dX7_swapAt_48 : decode cX7_swapAt 48 = .ok (.iload_n 1, 1) := by decide +kernel
theorem dX7_swapAt_49 : decode cX7_swapAt 49 = .ok (.imul, 1) := by decide +kernel
theorem dX7_swapAt_50 : decode cX7_swapAt 50 = .ok (.iload_n 2, 1) := by decide +kernel
theorem dX7_swapAt_51 : decode cX7_swapAt 51 = .ok (.iadd, 1) := by decide +kernel
theorem dX7_swapAt_52 : decode cX7_swapAt 52 = .ok (.ldc2_w 73, 3) := by decide +kernel
theorem dX7_swapAt_55 : decode cX7_swapAt 55 = .ok (.lload_n 3, 1) := by decide +kernel
theorem dX7_swapAt_56 : decode cX7_swapAt 56 = .ok (.aload_n 0, 1) := by decide +kernel
theorem dX7_swapAt_57 : decode cX7_swapAt 57 = .ok (.getfield 26, 3) := by decide +kernel
theorem dX7_swapAt_60 : decode cX7_swapAt 60 = .ok (.iconst 3, 1) := by decide +kernel
theorem dX7_swapAt_61 : decode cX7_swapAt 61 = .ok (.iload_n 1, 1) := by decide +kernel
theorem dX7_swapAt_62 : decode cX7_swapAt 62 = .ok (.imul, 1) := by decide +kernel
theorem dX7_swapAt_63 : decode cX7_swapAt 63 = .ok (.iload_n 2, 1) := by decide +kernel
theorem dX7_swapAt_64 : decode cX7_swapAt 64 = .ok (.iadd, 1) := by decide +kernel
theorem dX7_swapAt_65 : decode cX7_swapAt 65 = .ok (.laload, 1) := by decide +kernel
theorem dX7_swapAt_66 : decode cX7_swapAt 66 = .ok (.lsub, 1) := by decide +kernel
theorem dX7_swapAt_67 : decode cX7_swapAt 67 = .ok (.lmul, 1) := by decide +kernel
theorem dX7_swapAt_68 : decode cX7_swapAt 68 = .ok (.aload_n 0, 1) := by decide +kernel
theorem dX7_swapAt_69 : decode cX7_swapAt 69 = .ok (.getfield 26, 3) := by decide +kernel
theorem dX7_swapAt_72 : decode cX7_swapAt 72 = .ok (.iconst 3, 1) := by decide +kernel
theorem dX7_swapAt_73 : decode cX7_swapAt 73 = .ok (.iload_n 1, 1) := by decide +kernel
theorem dX7_swapAt_74 : decode cX7_swapAt 74 = .ok (.imul, 1) := by decide +kernel
theorem dX7_swapAt_75 : decode cX7_swapAt 75 = .ok (.iload_n 2, 1) := by decide +kernel
theorem dX7_swapAt_76 : decode cX7_swapAt 76 = .ok (.iadd, 1) := by decide +kernel
theorem dX7_swapAt_77 : decode cX7_swapAt 77 = .ok (.laload, 1) := by decide +kernel
theorem dX7_swapAt_78 : decode cX7_swapAt 78 = .ok (.lsub, 1) := by decide +kernel
theorem dX7_swapAt_79 : decode cX7_swapAt 79 = .ok (.lastore, 1) := by decide +kernel
theorem dX7_swapAt_80 : decode cX7_swapAt 80 = .ok (.iinc 2 1, 3) := by decide +kernel
theorem dX7_swapAt_83 : decode cX7_swapAt 83 = .ok (.goto (-81), 3) := by decide +kernel
theorem dX7_swapAt_86 : decode cX7_swapAt 86 = .ok (.return_, 1) := by decide +kernel
theorem dX7_swap_0 : decode cX7_swap 0 = .ok (.aload_n 0, 1) := by decide +kernel
theorem dX7_swap_1 : decode cX7_swap 1 = .ok (.iload_n 1, 1) := by decide +kernel
theorem dX7_swap_2 : decode cX7_swap 2 = .ok (.invokevirtual 115, 3) := by decide +kernel
theorem dX7_swap_5 : decode cX7_swap 5 = .ok (.ifCond .eq 15, 3) := by decide +kernel
theorem dX7_swap_8 : decode cX7_swap 8 = .ok (.iload_n 2, 1) := by decide +kernel
theorem dX7_swap_9 : decode cX7_swap 9 = .ok (.i2l, 1) := by decide +kernel
theorem dX7_swap_10 : decode cX7_swap 10 = .ok (.lconst 0, 1) := by decide +kernel
theorem dX7_swap_11 : decode cX7_swap 11 = .ok (.ldc2_w 118, 3) := by decide +kernel
theorem dX7_swap_14 : decode cX7_swap 14 = .ok (.invokestatic 63, 3) := by decide +kernel
theorem dX7_swap_17 : decode cX7_swap 17 = .ok (.ifCond .ne 5, 3) := by decide +kernel
theorem dX7_swap_20 : decode cX7_swap 20 = .ok (.iconst (-1), 1) := by decide +kernel
theorem dX7_swap_21 : decode cX7_swap 21 = .ok (.ireturn, 1) := by decide +kernel
theorem dX7_swap_22 : decode cX7_swap 22 = .ok (.aload_n 0, 1) := by decide +kernel
theorem dX7_swap_23 : decode cX7_swap 23 = .ok (.iload_n 1, 1) := by decide +kernel
theorem dX7_swap_24 : decode cX7_swap 24 = .ok (.invokevirtual 120, 3) := by decide +kernel
theorem dX7_swap_27 : decode cX7_swap 27 = .ok (.aload_n 0, 1) := by decide +kernel
theorem dX7_swap_28 : decode cX7_swap 28 = .ok (.iload_n 2, 1) := by decide +kernel
theorem dX7_swap_29 : decode cX7_swap 29 = .ok (.invokevirtual 124, 3) := by decide +kernel
theorem dX7_swap_32 : decode cX7_swap 32 = .ok (.aload_n 0, 1) := by decide +kernel
theorem dX7_swap_33 : decode cX7_swap 33 = .ok (.getfield 26, 3) := by decide +kernel
theorem dX7_swap_36 : decode cX7_swap 36 = .ok (.iconst 3, 1) := by decide +kernel
theorem dX7_swap_37 : decode cX7_swap 37 = .ok (.iload_n 2, 1) := by decide +kernel
theorem dX7_swap_38 : decode cX7_swap 38 = .ok (.imul, 1) := by decide +kernel
theorem dX7_swap_39 : decode cX7_swap 39 = .ok (.laload, 1) := by decide +kernel
theorem dX7_swap_40 : decode cX7_swap 40 = .ok (.invokestatic 90, 3) := by decide +kernel
theorem dX7_swap_43 : decode cX7_swap 43 = .ok (.ifCond .ne 6, 3) := by decide +kernel
theorem dX7_swap_46 : decode cX7_swap 46 = .ok (.bipush (-15), 2) := by decide +kernel
theorem dX7_swap_48 : decode cX7_swap 48 = .ok (.ireturn, 1) := by decide +kernel
theorem dX7_swap_49 : decode cX7_swap 49 = .ok (.aload_n 0, 1) := by decide +kernel
theorem dX7_swap_50 : decode cX7_swap 50 = .ok (.getfield 26, 3) := by decide +kernel
theorem dX7_swap_53 : decode cX7_swap 53 = .ok (.iconst 3, 1) := by decide +kernel
theorem dX7_swap_54 : decode cX7_swap 54 = .ok (.iload_n 2, 1) := by decide +kernel
theorem dX7_swap_55 : decode cX7_swap 55 = .ok (.imul, 1) := by decide +kernel
theorem dX7_swap_56 : decode cX7_swap 56 = .ok (.iconst 1, 1) := by decide +kernel
theorem dX7_swap_57 : decode cX7_swap 57 = .ok (.iadd, 1) := by decide +kernel
theorem dX7_swap_58 : decode cX7_swap 58 = .ok (.laload, 1) := by decide +kernel
theorem dX7_swap_59 : decode cX7_swap 59 = .ok (.invokestatic 94, 3) := by decide +kernel
theorem dX7_swap_62 : decode cX7_swap 62 = .ok (.ifCond .eq 19, 3) := by decide +kernel
theorem dX7_swap_65 : decode cX7_swap 65 = .ok (.aload_n 0, 1) := by decide +kernel
theorem dX7_swap_66 : decode cX7_swap 66 = .ok (.getfield 26, 3) := by decide +kernel
theorem dX7_swap_69 : decode cX7_swap 69 = .ok (.iconst 3, 1) := by decide +kernel
theorem dX7_swap_70 : decode cX7_swap 70 = .ok (.iload_n 2, 1) := by decide +kernel
theorem dX7_swap_71 : decode cX7_swap 71 = .ok (.imul, 1) := by decide +kernel
theorem dX7_swap_72 : decode cX7_swap 72 = .ok (.iconst 2, 1) := by decide +kernel
theorem dX7_swap_73 : decode cX7_swap 73 = .ok (.iadd, 1) := by decide +kernel
theorem dX7_swap_74 : decode cX7_swap 74 = .ok (.laload, 1) := by decide +kernel
theorem dX7_swap_75 : decode cX7_swap 75 = .ok (.invokestatic 94, 3) := by decide +kernel
theorem dX7_swap_78 : decode cX7_swap 78 = .ok (.ifCond .ne 6, 3) := by decide +kernel
theorem dX7_swap_81 : decode cX7_swap 81 = .ok (.bipush (-16), 2) := by decide +kernel
theorem dX7_swap_83 : decode cX7_swap 83 = .ok (.ireturn, 1) := by decide +kernel
theorem dX7_swap_84 : decode cX7_swap 84 = .ok (.aload_n 0, 1) := by decide +kernel
theorem dX7_swap_85 : decode cX7_swap 85 = .ok (.getfield 79, 3) := by decide +kernel
theorem dX7_swap_88 : decode cX7_swap 88 = .ok (.bipush 60, 2) := by decide +kernel
theorem dX7_swap_90 : decode cX7_swap 90 = .ok (.if_icmp .ne 8, 3) := by decide +kernel
theorem dX7_swap_93 : decode cX7_swap 93 = .ok (.bipush (-2), 2) := by decide +kernel
theorem dX7_swap_95 : decode cX7_swap 95 = .ok (.goto 8, 3) := by decide +kernel
theorem dX7_swap_98 : decode cX7_swap 98 = .ok (.aload_n 0, 1) := by decide +kernel
theorem dX7_swap_99 : decode cX7_swap 99 = .ok (.iload_n 1, 1) := by decide +kernel
theorem dX7_swap_100 : decode cX7_swap 100 = .ok (.invokevirtual 111, 3) := by decide +kernel
theorem dX7_swap_103 : decode cX7_swap 103 = .ok (.ireturn, 1) := by decide +kernel
theorem dX7_isCoin_0 : decode cX7_isCoin 0 = .ok (.iload_n 0, 1) := by decide +kernel
theorem dX7_isCoin_1 : decode cX7_isCoin 1 = .ok (.i2l, 1) := by decide +kernel
theorem dX7_isCoin_2 : decode cX7_isCoin 2 = .ok (.lconst 0, 1) := by decide +kernel
theorem dX7_isCoin_3 : decode cX7_isCoin 3 = .ok (.ldc2_w 118, 3) := by decide +kernel
theorem dX7_isCoin_6 : decode cX7_isCoin 6 = .ok (.invokestatic 63, 3) := by decide +kernel
theorem dX7_isCoin_9 : decode cX7_isCoin 9 = .ok (.ifCond .eq 19, 3) := by decide +kernel
theorem dX7_isCoin_12 : decode cX7_isCoin 12 = .ok (.iload_n 1, 1) := by decide +kernel
theorem dX7_isCoin_13 : decode cX7_isCoin 13 = .ok (.i2l, 1) := by decide +kernel
theorem dX7_isCoin_14 : decode cX7_isCoin 14 = .ok (.lconst 0, 1) := by decide +kernel
theorem dX7_isCoin_15 : decode cX7_isCoin 15 = .ok (.ldc2_w 73, 3) := by decide +kernel
theorem dX7_isCoin_18 : decode cX7_isCoin 18 = .ok (.invokestatic 63, 3) := by decide +kernel
theorem dX7_isCoin_21 : decode cX7_isCoin 21 = .ok (.ifCond .eq 7, 3) := by decide +kernel
theorem dX7_isCoin_24 : decode cX7_isCoin 24 = .ok (.iconst 1, 1) := by decide +kernel
theorem dX7_isCoin_25 : decode cX7_isCoin 25 = .ok (.goto 4, 3) := by decide +kernel
theorem dX7_isCoin_28 : decode cX7_isCoin 28 = .ok (.iconst 0, 1) := by decide +kernel
theorem dX7_isCoin_29 : decode cX7_isCoin 29 = .ok (.ireturn, 1) := by decide +kernel
theorem dX7_coin_0 : decode cX7_coin 0 = .ok (.aload_n 0, 1) := by decide +kernel
theorem dX7_coin_1 : decode cX7_coin 1 = .ok (.iload_n 1, 1) := by decide +kernel
theorem dX7_coin_2 : decode cX7_coin 2 = .ok (.invokevirtual 115, 3) := by decide +kernel
theorem dX7_coin_5 : decode cX7_coin 5 = .ok (.ifCond .eq 29, 3) := by decide +kernel
theorem dX7_coin_8 : decode cX7_coin 8 = .ok (.iload_n 2, 1) := by decide +kernel
theorem dX7_coin_9 : decode cX7_coin 9 = .ok (.iload_n 3, 1) := by decide +kernel
theorem dX7_coin_10 : decode cX7_coin 10 = .ok (.invokestatic 127, 3) := by decide +kernel
theorem dX7_coin_13 : decode cX7_coin 13 = .ok (.ifCond .eq 21, 3) := by decide +kernel
theorem dX7_coin_16 : decode cX7_coin 16 = .ok (.aload_n 0, 1) := by decide +kernel
theorem dX7_coin_17 : decode cX7_coin 17 = .ok (.getfield 23, 3) := by decide +kernel
theorem dX7_coin_20 : decode cX7_coin 20 = .ok (.bipush 12, 2) := by decide +kernel
theorem dX7_coin_22 : decode cX7_coin 22 = .ok (.iload_n 1, 1) := by decide +kernel
theorem dX7_coin_23 : decode cX7_coin 23 = .ok (.imul, 1) := by decide +kernel
theorem dX7_coin_24 : decode cX7_coin 24 = .ok (.iconst 3, 1) := by decide +kernel
theorem dX7_coin_25 : decode cX7_coin 25 = .ok (.iload_n 2, 1) := by decide +kernel
theorem dX7_coin_26 : decode cX7_coin 26 = .ok (.imul, 1) := by decide +kernel
theorem dX7_coin_27 : decode cX7_coin 27 = .ok (.iadd, 1) := by decide +kernel
theorem dX7_coin_28 : decode cX7_coin 28 = .ok (.iload_n 3, 1) := by decide +kernel
theorem dX7_coin_29 : decode cX7_coin 29 = .ok (.iadd, 1) := by decide +kernel
theorem dX7_coin_30 : decode cX7_coin 30 = .ok (.iaload, 1) := by decide +kernel
theorem dX7_coin_31 : decode cX7_coin 31 = .ok (.goto 5, 3) := by decide +kernel
theorem dX7_coin_34 : decode cX7_coin 34 = .ok (.ldc 131, 2) := by decide +kernel
theorem dX7_coin_36 : decode cX7_coin 36 = .ok (.ireturn, 1) := by decide +kernel
theorem dX7_from_0 : decode cX7_from 0 = .ok (.aload_n 0, 1) := by decide +kernel
theorem dX7_from_1 : decode cX7_from 1 = .ok (.iload_n 1, 1) := by decide +kernel
theorem dX7_from_2 : decode cX7_from 2 = .ok (.invokevirtual 115, 3) := by decide +kernel
theorem dX7_from_5 : decode cX7_from 5 = .ok (.ifCond .eq 12, 3) := by decide +kernel
theorem dX7_from_8 : decode cX7_from 8 = .ok (.aload_n 0, 1) := by decide +kernel
theorem dX7_from_9 : decode cX7_from 9 = .ok (.getfield 20, 3) := by decide +kernel
theorem dX7_from_12 : decode cX7_from 12 = .ok (.iload_n 1, 1) := by decide +kernel
theorem dX7_from_13 : decode cX7_from 13 = .ok (.iaload, 1) := by decide +kernel
theorem dX7_from_14 : decode cX7_from 14 = .ok (.goto 4, 3) := by decide +kernel
theorem dX7_from_17 : decode cX7_from 17 = .ok (.iconst (-1), 1) := by decide +kernel
theorem dX7_from_18 : decode cX7_from 18 = .ok (.ireturn, 1) := by decide +kernel
theorem dX7_greatest_0 : decode cX7_greatest 0 = .ok (.iconst 0, 1) := by decide +kernel
theorem dX7_greatest_1 : decode cX7_greatest 1 = .ok (.istore_n 1, 1) := by decide +kernel
theorem dX7_greatest_2 : decode cX7_greatest 2 = .ok (.iconst 1, 1) := by decide +kernel
theorem dX7_greatest_3 : decode cX7_greatest 3 = .ok (.istore_n 2, 1) := by decide +kernel
theorem dX7_greatest_4 : decode cX7_greatest 4 = .ok (.iload_n 2, 1) := by decide +kernel
theorem dX7_greatest_5 : decode cX7_greatest 5 = .ok (.iconst 4, 1) := by decide +kernel
theorem dX7_greatest_6 : decode cX7_greatest 6 = .ok (.if_icmp .ge 35, 3) := by decide +kernel
theorem dX7_greatest_9 : decode cX7_greatest 9 = .ok (.aload_n 0, 1) := by decide +kernel
theorem dX7_greatest_10 : decode cX7_greatest 10 = .ok (.getfield 26, 3) := by decide +kernel
theorem dX7_greatest_13 : decode cX7_greatest 13 = .ok (.iconst 3, 1) := by decide +kernel
theorem dX7_greatest_14 : decode cX7_greatest 14 = .ok (.iload_n 2, 1) := by decide +kernel
theorem dX7_greatest_15 : decode cX7_greatest 15 = .ok (.imul, 1) := by decide +kernel
theorem dX7_greatest_16 : decode cX7_greatest 16 = .ok (.laload, 1) := by decide +kernel
theorem dX7_greatest_17 : decode cX7_greatest 17 = .ok (.aload_n 0, 1) := by decide +kernel
theorem dX7_greatest_18 : decode cX7_greatest 18 = .ok (.getfield 26, 3) := by decide +kernel
theorem dX7_greatest_21 : decode cX7_greatest 21 = .ok (.iconst 3, 1) := by decide +kernel
theorem dX7_greatest_22 : decode cX7_greatest 22 = .ok (.iload_n 1, 1) := by decide +kernel
theorem dX7_greatest_23 : decode cX7_greatest 23 = .ok (.imul, 1) := by decide +kernel
theorem dX7_greatest_24 : decode cX7_greatest 24 = .ok (.laload, 1) := by decide +kernel
theorem dX7_greatest_25 : decode cX7_greatest 25 = .ok (.lcmp, 1) := by decide +kernel
theorem dX7_greatest_26 : decode cX7_greatest 26 = .ok (.ifCond .le 7, 3) := by decide +kernel
theorem dX7_greatest_29 : decode cX7_greatest 29 = .ok (.iload_n 2, 1) := by decide +kernel
theorem dX7_greatest_30 : decode cX7_greatest 30 = .ok (.goto 4, 3) := by decide +kernel
theorem dX7_greatest_33 : decode cX7_greatest 33 = .ok (.iload_n 1, 1) := by decide +kernel
theorem dX7_greatest_34 : decode cX7_greatest 34 = .ok (.istore_n 1, 1) := by decide +kernel
theorem dX7_greatest_35 : decode cX7_greatest 35 = .ok (.iinc 2 1, 3) := by decide +kernel
theorem dX7_greatest_38 : decode cX7_greatest 38 = .ok (.goto (-34), 3) := by decide +kernel
theorem dX7_greatest_41 : decode cX7_greatest 41 = .ok (.iload_n 1, 1) := by decide +kernel
theorem dX7_greatest_42 : decode cX7_greatest 42 = .ok (.ireturn, 1) := by decide +kernel
theorem dX7_goDown_0 : decode cX7_goDown 0 = .ok (.aload_n 0, 1) := by decide +kernel
theorem dX7_goDown_1 : decode cX7_goDown 1 = .ok (.iload_n 1, 1) := by decide +kernel
theorem dX7_goDown_2 : decode cX7_goDown 2 = .ok (.invokevirtual 120, 3) := by decide +kernel
theorem dX7_goDown_5 : decode cX7_goDown 5 = .ok (.aload_n 0, 1) := by decide +kernel
theorem dX7_goDown_6 : decode cX7_goDown 6 = .ok (.iconst 0, 1) := by decide +kernel
theorem dX7_goDown_7 : decode cX7_goDown 7 = .ok (.putfield 132, 3) := by decide +kernel
theorem dX7_goDown_10 : decode cX7_goDown 10 = .ok (.iconst 1, 1) := by decide +kernel
theorem dX7_goDown_11 : decode cX7_goDown 11 = .ok (.istore_n 2, 1) := by decide +kernel
theorem dX7_goDown_12 : decode cX7_goDown 12 = .ok (.iload_n 2, 1) := by decide +kernel
theorem dX7_goDown_13 : decode cX7_goDown 13 = .ok (.ifCond .eq 88, 3) := by decide +kernel
theorem dX7_goDown_16 : decode cX7_goDown 16 = .ok (.aload_n 0, 1) := by decide +kernel
theorem dX7_goDown_17 : decode cX7_goDown 17 = .ok (.invokevirtual 135, 3) := by decide +kernel
theorem dX7_goDown_20 : decode cX7_goDown 20 = .ok (.istore_n 3, 1) := by decide +kernel
theorem dX7_goDown_21 : decode cX7_goDown 21 = .ok (.aload_n 0, 1) := by decide +kernel
theorem dX7_goDown_22 : decode cX7_goDown 22 = .ok (.getfield 26, 3) := by decide +kernel
theorem dX7_goDown_25 : decode cX7_goDown 25 = .ok (.iconst 3, 1) := by decide +kernel
theorem dX7_goDown_26 : decode cX7_goDown 26 = .ok (.iload_n 3, 1) := by decide +kernel
theorem dX7_goDown_27 : decode cX7_goDown 27 = .ok (.imul, 1) := by decide +kernel
theorem dX7_goDown_28 : decode cX7_goDown 28 = .ok (.laload, 1) := by decide +kernel
theorem dX7_goDown_29 : decode cX7_goDown 29 = .ok (.lstore 4, 2) := by decide +kernel
theorem dX7_goDown_31 : decode cX7_goDown 31 = .ok (.aload_n 0, 1) := by decide +kernel
theorem dX7_goDown_32 : decode cX7_goDown 32 = .ok (.iload_n 3, 1) := by decide +kernel
theorem dX7_goDown_33 : decode cX7_goDown 33 = .ok (.invokevirtual 124, 3) := by decide +kernel
theorem dX7_goDown_36 : decode cX7_goDown 36 = .ok (.aload_n 0, 1) := by decide +kernel
theorem dX7_goDown_37 : decode cX7_goDown 37 = .ok (.getfield 26, 3) := by decide +kernel
theorem dX7_goDown_40 : decode cX7_goDown 40 = .ok (.iconst 3, 1) := by decide +kernel
theorem dX7_goDown_41 : decode cX7_goDown 41 = .ok (.iload_n 3, 1) := by decide +kernel
theorem dX7_goDown_42 : decode cX7_goDown 42 = .ok (.imul, 1) := by decide +kernel
theorem dX7_goDown_43 : decode cX7_goDown 43 = .ok (.laload, 1) := by decide +kernel
theorem dX7_goDown_44 : decode cX7_goDown 44 = .ok (.lload 4, 2) := by decide +kernel
theorem dX7_goDown_46 : decode cX7_goDown 46 = .ok (.lcmp, 1) := by decide +kernel
theorem dX7_goDown_47 : decode cX7_goDown 47 = .ok (.ifCond .ge 7, 3) := by decide +kernel
theorem dX7_goDown_50 : decode cX7_goDown 50 = .ok (.iconst 1, 1) := by decide +kernel
theorem dX7_goDown_51 : decode cX7_goDown 51 = .ok (.goto 4, 3) := by decide +kernel
theorem dX7_goDown_54 : decode cX7_goDown 54 = .ok (.iconst 0, 1) := by decide +kernel
theorem dX7_goDown_55 : decode cX7_goDown 55 = .ok (.istore_n 2, 1) := by decide +kernel
theorem dX7_goDown_56 : decode cX7_goDown 56 = .ok (.iload_n 2, 1) := by decide +kernel
theorem dX7_goDown_57 : decode cX7_goDown 57 = .ok (.ifCond .eq 36, 3) := by decide +kernel
theorem dX7_goDown_60 : decode cX7_goDown 60 = .ok (.aload_n 0, 1) := by decide +kernel
theorem dX7_goDown_61 : decode cX7_goDown 61 = .ok (.getfield 132, 3) := by decide +kernel
theorem dX7_goDown_64 : decode cX7_goDown 64 = .ok (.sipush 1000, 3) := by decide +kernel
theorem dX7_goDown_67 : decode cX7_goDown 67 = .ok (.if_icmp .ge 13, 3) := by decide +kernel
theorem dX7_goDown_70 : decode cX7_goDown 70 = .ok (.aload_n 0, 1) := by decide +kernel
theorem dX7_goDown_71 : decode cX7_goDown 71 = .ok (.getfield 29, 3) := by decide +kernel
theorem dX7_goDown_74 : decode cX7_goDown 74 = .ok (.aload_n 0, 1) := by decide +kernel
theorem dX7_goDown_75 : decode cX7_goDown 75 = .ok (.getfield 132, 3) := by decide +kernel
theorem dX7_goDown_78 : decode cX7_goDown 78 = .ok (.iload_n 3, 1) := by decide +kernel
theorem dX7_goDown_79 : decode cX7_goDown 79 = .ok (.iastore, 1) := by decide +kernel
theorem dX7_goDown_80 : decode cX7_goDown 80 = .ok (.aload_n 0, 1) := by decide +kernel
theorem dX7_goDown_81 : decode cX7_goDown 81 = .ok (.dup, 1) := by decide +kernel
theorem dX7_goDown_82 : decode cX7_goDown 82 = .ok (.getfield 132, 3) := by decide +kernel
theorem dX7_goDown_85 : decode cX7_goDown 85 = .ok (.iconst 1, 1) := by decide +kernel
theorem dX7_goDown_86 : decode cX7_goDown 86 = .ok (.iadd, 1) := by decide +kernel
theorem dX7_goDown_87 : decode cX7_goDown 87 = .ok (.putfield 132, 3) := by decide +kernel
theorem dX7_goDown_90 : decode cX7_goDown 90 = .ok (.goto 8, 3) := by decide +kernel
theorem dX7_goDown_93 : decode cX7_goDown 93 = .ok (.aload_n 0, 1) := by decide +kernel
theorem dX7_goDown_94 : decode cX7_goDown 94 = .ok (.iload_n 3, 1) := by decide +kernel
theorem dX7_goDown_95 : decode cX7_goDown 95 = .ok (.invokevirtual 124, 3) := by decide +kernel
theorem dX7_goDown_98 : decode cX7_goDown 98 = .ok (.goto (-86), 3) := by decide +kernel
theorem dX7_goDown_101 : decode cX7_goDown 101 = .ok (.return_, 1) := by decide +kernel
theorem dX7_steps_0 : decode cX7_steps 0 = .ok (.aload_n 0, 1) := by decide +kernel
theorem dX7_steps_1 : decode cX7_steps 1 = .ok (.iload_n 1, 1) := by decide +kernel
theorem dX7_steps_2 : decode cX7_steps 2 = .ok (.invokevirtual 115, 3) := by decide +kernel
theorem dX7_steps_5 : decode cX7_steps 5 = .ok (.ifCond .ne 5, 3) := by decide +kernel
theorem dX7_steps_8 : decode cX7_steps 8 = .ok (.iconst (-1), 1) := by decide +kernel
theorem dX7_steps_9 : decode cX7_steps 9 = .ok (.ireturn, 1) := by decide +kernel
theorem dX7_steps_10 : decode cX7_steps 10 = .ok (.aload_n 0, 1) := by decide +kernel
theorem dX7_steps_11 : decode cX7_steps 11 = .ok (.iload_n 1, 1) := by decide +kernel
theorem dX7_steps_12 : decode cX7_steps 12 = .ok (.invokevirtual 138, 3) := by decide +kernel
theorem dX7_steps_15 : decode cX7_steps 15 = .ok (.aload_n 0, 1) := by decide +kernel
theorem dX7_steps_16 : decode cX7_steps 16 = .ok (.getfield 132, 3) := by decide +kernel
theorem dX7_steps_19 : decode cX7_steps 19 = .ok (.ireturn, 1) := by decide +kernel
theorem dX7_step_0 : decode cX7_step 0 = .ok (.aload_n 0, 1) := by decide +kernel
theorem dX7_step_1 : decode cX7_step 1 = .ok (.iload_n 1, 1) := by decide +kernel
theorem dX7_step_2 : decode cX7_step 2 = .ok (.invokevirtual 115, 3) := by decide +kernel
theorem dX7_step_5 : decode cX7_step 5 = .ok (.ifCond .eq 7, 3) := by decide +kernel
theorem dX7_step_8 : decode cX7_step 8 = .ok (.iload_n 2, 1) := by decide +kernel
theorem dX7_step_9 : decode cX7_step 9 = .ok (.ifCond .ge 5, 3) := by decide +kernel
theorem dX7_step_12 : decode cX7_step 12 = .ok (.iconst (-1), 1) := by decide +kernel
theorem dX7_step_13 : decode cX7_step 13 = .ok (.ireturn, 1) := by decide +kernel
theorem dX7_step_14 : decode cX7_step 14 = .ok (.aload_n 0, 1) := by decide +kernel
theorem dX7_step_15 : decode cX7_step 15 = .ok (.iload_n 1, 1) := by decide +kernel
theorem dX7_step_16 : decode cX7_step 16 = .ok (.invokevirtual 138, 3) := by decide +kernel
theorem dX7_step_19 : decode cX7_step 19 = .ok (.iload_n 2, 1) := by decide +kernel
theorem dX7_step_20 : decode cX7_step 20 = .ok (.aload_n 0, 1) := by decide +kernel
theorem dX7_step_21 : decode cX7_step 21 = .ok (.getfield 132, 3) := by decide +kernel
theorem dX7_step_24 : decode cX7_step 24 = .ok (.if_icmp .ge 12, 3) := by decide +kernel
theorem dX7_step_27 : decode cX7_step 27 = .ok (.aload_n 0, 1) := by decide +kernel
theorem dX7_step_28 : decode cX7_step 28 = .ok (.getfield 29, 3) := by decide +kernel
theorem dX7_step_31 : decode cX7_step 31 = .ok (.iload_n 2, 1) := by decide +kernel
theorem dX7_step_32 : decode cX7_step 32 = .ok (.iaload, 1) := by decide +kernel
theorem dX7_step_33 : decode cX7_step 33 = .ok (.goto 5, 3) := by decide +kernel
theorem dX7_step_36 : decode cX7_step 36 = .ok (.bipush (-3), 2) := by decide +kernel
theorem dX7_step_38 : decode cX7_step 38 = .ok (.ireturn, 1) := by decide +kernel
theorem dX7_root_0 : decode cX7_root 0 = .ok (.aload_n 0, 1) := by decide +kernel
theorem dX7_root_1 : decode cX7_root 1 = .ok (.iload_n 1, 1) := by decide +kernel
theorem dX7_root_2 : decode cX7_root 2 = .ok (.invokevirtual 115, 3) := by decide +kernel
theorem dX7_root_5 : decode cX7_root 5 = .ok (.ifCond .eq 11, 3) := by decide +kernel
theorem dX7_root_8 : decode cX7_root 8 = .ok (.iload_n 2, 1) := by decide +kernel
theorem dX7_root_9 : decode cX7_root 9 = .ok (.iload_n 3, 1) := by decide +kernel
theorem dX7_root_10 : decode cX7_root 10 = .ok (.invokestatic 127, 3) := by decide +kernel
theorem dX7_root_13 : decode cX7_root 13 = .ok (.ifCond .ne 6, 3) := by decide +kernel
theorem dX7_root_16 : decode cX7_root 16 = .ok (.ldc 131, 2) := by decide +kernel
theorem dX7_root_18 : decode cX7_root 18 = .ok (.ireturn, 1) := by decide +kernel
theorem dX7_root_19 : decode cX7_root 19 = .ok (.aload_n 0, 1) := by decide +kernel
theorem dX7_root_20 : decode cX7_root 20 = .ok (.iload_n 1, 1) := by decide +kernel
theorem dX7_root_21 : decode cX7_root 21 = .ok (.invokevirtual 138, 3) := by decide +kernel
theorem dX7_root_24 : decode cX7_root 24 = .ok (.aload_n 0, 1) := by decide +kernel
theorem dX7_root_25 : decode cX7_root 25 = .ok (.getfield 26, 3) := by decide +kernel
theorem dX7_root_28 : decode cX7_root 28 = .ok (.iconst 3, 1) := by decide +kernel
theorem dX7_root_29 : decode cX7_root 29 = .ok (.iload_n 2, 1) := by decide +kernel
theorem dX7_root_30 : decode cX7_root 30 = .ok (.imul, 1) := by decide +kernel
theorem dX7_root_31 : decode cX7_root 31 = .ok (.iload_n 3, 1) := by decide +kernel
theorem dX7_root_32 : decode cX7_root 32 = .ok (.iadd, 1) := by decide +kernel
theorem dX7_root_33 : decode cX7_root 33 = .ok (.laload, 1) := by decide +kernel
theorem dX7_root_34 : decode cX7_root 34 = .ok (.l2i, 1) := by decide +kernel
theorem dX7_root_35 : decode cX7_root 35 = .ok (.ireturn, 1) := by decide +kernel
theorem dX7_layBends_0 : decode cX7_layBends 0 = .ok (.iconst 0, 1) := by decide +kernel
theorem dX7_layBends_1 : decode cX7_layBends 1 = .ok (.istore_n 1, 1) := by decide +kernel
theorem dX7_layBends_2 : decode cX7_layBends 2 = .ok (.iload_n 1, 1) := by decide +kernel
theorem dX7_layBends_3 : decode cX7_layBends 3 = .ok (.iconst 4, 1) := by decide +kernel
theorem dX7_layBends_4 : decode cX7_layBends 4 = .ok (.if_icmp .ge 69, 3) := by decide +kernel
theorem dX7_layBends_7 : decode cX7_layBends 7 = .ok (.iload_n 1, 1) := by decide +kernel
theorem dX7_layBends_8 : decode cX7_layBends 8 = .ok (.istore_n 2, 1) := by decide +kernel
theorem dX7_layBends_9 : decode cX7_layBends 9 = .ok (.iload_n 2, 1) := by decide +kernel
theorem dX7_layBends_10 : decode cX7_layBends 10 = .ok (.ifCond .le 43, 3) := by decide +kernel
theorem dX7_layBends_13 : decode cX7_layBends 13 = .ok (.aload_n 0, 1) := by decide +kernel
theorem dX7_layBends_14 : decode cX7_layBends 14 = .ok (.getfield 42, 3) := by decide +kernel
theorem dX7_layBends_17 : decode cX7_layBends 17 = .ok (.iload_n 2, 1) := by decide +kernel
theorem dX7_layBends_18 : decode cX7_layBends 18 = .ok (.iconst 1, 1) := by decide +kernel
theorem dX7_layBends_19 : decode cX7_layBends 19 = .ok (.isub, 1) := by decide +kernel
theorem dX7_layBends_20 : decode cX7_layBends 20 = .ok (.laload, 1) := by decide +kernel
theorem dX7_layBends_21 : decode cX7_layBends 21 = .ok (.aload_n 0, 1) := by decide +kernel
theorem dX7_layBends_22 : decode cX7_layBends 22 = .ok (.getfield 26, 3) := by decide +kernel
theorem dX7_layBends_25 : decode cX7_layBends 25 = .ok (.iconst 3, 1) := by decide +kernel
theorem dX7_layBends_26 : decode cX7_layBends 26 = .ok (.iload_n 1, 1) := by decide +kernel
theorem dX7_layBends_27 : decode cX7_layBends 27 = .ok (.imul, 1) := by decide +kernel
theorem dX7_layBends_28 : decode cX7_layBends 28 = .ok (.laload, 1) := by decide +kernel
theorem dX7_layBends_29 : decode cX7_layBends 29 = .ok (.lcmp, 1) := by decide +kernel
theorem dX7_layBends_30 : decode cX7_layBends 30 = .ok (.ifCond .le 23, 3) := by decide +kernel
theorem dX7_layBends_33 : decode cX7_layBends 33 = .ok (.aload_n 0, 1) := by decide +kernel
theorem dX7_layBends_34 : decode cX7_layBends 34 = .ok (.getfield 42, 3) := by decide +kernel
theorem dX7_layBends_37 : decode cX7_layBends 37 = .ok (.iload_n 2, 1) := by decide +kernel
theorem dX7_layBends_38 : decode cX7_layBends 38 = .ok (.aload_n 0, 1) := by decide +kernel
theorem dX7_layBends_39 : decode cX7_layBends 39 = .ok (.getfield 42, 3) := by decide +kernel
theorem dX7_layBends_42 : decode cX7_layBends 42 = .ok (.iload_n 2, 1) := by decide +kernel
theorem dX7_layBends_43 : decode cX7_layBends 43 = .ok (.iconst 1, 1) := by decide +kernel
theorem dX7_layBends_44 : decode cX7_layBends 44 = .ok (.isub, 1) := by decide +kernel
theorem dX7_layBends_45 : decode cX7_layBends 45 = .ok (.laload, 1) := by decide +kernel
theorem dX7_layBends_46 : decode cX7_layBends 46 = .ok (.lastore, 1) := by decide +kernel
theorem dX7_layBends_47 : decode cX7_layBends 47 = .ok (.iinc 2 (-1), 3) := by decide +kernel
theorem dX7_layBends_50 : decode cX7_layBends 50 = .ok (.goto (-41), 3) := by decide +kernel
theorem dX7_layBends_53 : decode cX7_layBends 53 = .ok (.aload_n 0, 1) := by decide +kernel
theorem dX7_layBends_54 : decode cX7_layBends 54 = .ok (.getfield 42, 3) := by decide +kernel
theorem dX7_layBends_57 : decode cX7_layBends 57 = .ok (.iload_n 2, 1) := by decide +kernel
theorem dX7_layBends_58 : decode cX7_layBends 58 = .ok (.aload_n 0, 1) := by decide +kernel
theorem dX7_layBends_59 : decode cX7_layBends 59 = .ok (.getfield 26, 3) := by decide +kernel
theorem dX7_layBends_62 : decode cX7_layBends 62 = .ok (.iconst 3, 1) := by decide +kernel
theorem dX7_layBends_63 : decode cX7_layBends 63 = .ok (.iload_n 1, 1) := by decide +kernel
theorem dX7_layBends_64 : decode cX7_layBends 64 = .ok (.imul, 1) := by decide +kernel
theorem dX7_layBends_65 : decode cX7_layBends 65 = .ok (.laload, 1) := by decide +kernel
theorem dX7_layBends_66 : decode cX7_layBends 66 = .ok (.lastore, 1) := by decide +kernel
theorem dX7_layBends_67 : decode cX7_layBends 67 = .ok (.iinc 1 1, 3) := by decide +kernel
theorem dX7_layBends_70 : decode cX7_layBends 70 = .ok (.goto (-68), 3) := by decide +kernel
theorem dX7_layBends_73 : decode cX7_layBends 73 = .ok (.return_, 1) := by decide +kernel
theorem dX7_same_0 : decode cX7_same 0 = .ok (.aload_n 0, 1) := by decide +kernel
theorem dX7_same_1 : decode cX7_same 1 = .ok (.iload_n 1, 1) := by decide +kernel
theorem dX7_same_2 : decode cX7_same 2 = .ok (.invokevirtual 115, 3) := by decide +kernel
theorem dX7_same_5 : decode cX7_same 5 = .ok (.ifCond .eq 11, 3) := by decide +kernel
theorem dX7_same_8 : decode cX7_same 8 = .ok (.aload_n 0, 1) := by decide +kernel
theorem dX7_same_9 : decode cX7_same 9 = .ok (.iload_n 2, 1) := by decide +kernel
theorem dX7_same_10 : decode cX7_same 10 = .ok (.invokevirtual 115, 3) := by decide +kernel
theorem dX7_same_13 : decode cX7_same 13 = .ok (.ifCond .ne 5, 3) := by decide +kernel
theorem dX7_same_16 : decode cX7_same 16 = .ok (.iconst (-1), 1) := by decide +kernel
theorem dX7_same_17 : decode cX7_same 17 = .ok (.ireturn, 1) := by decide +kernel
theorem dX7_same_18 : decode cX7_same 18 = .ok (.aload_n 0, 1) := by decide +kernel
theorem dX7_same_19 : decode cX7_same 19 = .ok (.iload_n 1, 1) := by decide +kernel
theorem dX7_same_20 : decode cX7_same 20 = .ok (.invokevirtual 138, 3) := by decide +kernel
theorem dX7_same_23 : decode cX7_same 23 = .ok (.aload_n 0, 1) := by decide +kernel
theorem dX7_same_24 : decode cX7_same 24 = .ok (.invokevirtual 141, 3) := by decide +kernel
theorem dX7_same_27 : decode cX7_same 27 = .ok (.aload_n 0, 1) := by decide +kernel
theorem dX7_same_28 : decode cX7_same 28 = .ok (.getfield 42, 3) := by decide +kernel
theorem dX7_same_31 : decode cX7_same 31 = .ok (.iconst 0, 1) := by decide +kernel
theorem dX7_same_32 : decode cX7_same 32 = .ok (.laload, 1) := by decide +kernel
theorem dX7_same_33 : decode cX7_same 33 = .ok (.lstore_n 3, 1) := by decide +kernel
theorem dX7_same_34 : decode cX7_same 34 = .ok (.aload_n 0, 1) := by decide +kernel
theorem dX7_same_35 : decode cX7_same 35 = .ok (.getfield 42, 3) := by decide +kernel
theorem dX7_same_38 : decode cX7_same 38 = .ok (.iconst 1, 1) := by decide +kernel
theorem dX7_same_39 : decode cX7_same 39 = .ok (.laload, 1) := by decide +kernel
theorem dX7_same_40 : decode cX7_same 40 = .ok (.lstore 5, 2) := by decide +kernel
theorem dX7_same_42 : decode cX7_same 42 = .ok (.aload_n 0, 1) := by decide +kernel
theorem dX7_same_43 : decode cX7_same 43 = .ok (.getfield 42, 3) := by decide +kernel
theorem dX7_same_46 : decode cX7_same 46 = .ok (.iconst 2, 1) := by decide +kernel
theorem dX7_same_47 : decode cX7_same 47 = .ok (.laload, 1) := by decide +kernel
theorem dX7_same_48 : decode cX7_same 48 = .ok (.lstore 7, 2) := by decide +kernel
theorem dX7_same_50 : decode cX7_same 50 = .ok (.aload_n 0, 1) := by decide +kernel
theorem dX7_same_51 : decode cX7_same 51 = .ok (.getfield 42, 3) := by decide +kernel
theorem dX7_same_54 : decode cX7_same 54 = .ok (.iconst 3, 1) := by decide +kernel
theorem dX7_same_55 : decode cX7_same 55 = .ok (.laload, 1) := by decide +kernel
theorem dX7_same_56 : decode cX7_same 56 = .ok (.lstore 9, 2) := by decide +kernel
theorem dX7_same_58 : decode cX7_same 58 = .ok (.aload_n 0, 1) := by decide +kernel
theorem dX7_same_59 : decode cX7_same 59 = .ok (.iload_n 2, 1) := by decide +kernel
theorem dX7_same_60 : decode cX7_same 60 = .ok (.invokevirtual 138, 3) := by decide +kernel
theorem dX7_same_63 : decode cX7_same 63 = .ok (.aload_n 0, 1) := by decide +kernel
theorem dX7_same_64 : decode cX7_same 64 = .ok (.invokevirtual 141, 3) := by decide +kernel
theorem dX7_same_67 : decode cX7_same 67 = .ok (.lload_n 3, 1) := by decide +kernel
theorem dX7_same_68 : decode cX7_same 68 = .ok (.aload_n 0, 1) := by decide +kernel
theorem dX7_same_69 : decode cX7_same 69 = .ok (.getfield 42, 3) := by decide +kernel
theorem dX7_same_72 : decode cX7_same 72 = .ok (.iconst 0, 1) := by decide +kernel
theorem dX7_same_73 : decode cX7_same 73 = .ok (.laload, 1) := by decide +kernel
theorem dX7_same_74 : decode cX7_same 74 = .ok (.lcmp, 1) := by decide +kernel
theorem dX7_same_75 : decode cX7_same 75 = .ok (.ifCond .ne 43, 3) := by decide +kernel
theorem dX7_same_78 : decode cX7_same 78 = .ok (.lload 5, 2) := by decide +kernel
theorem dX7_same_80 : decode cX7_same 80 = .ok (.aload_n 0, 1) := by decide +kernel
theorem dX7_same_81 : decode cX7_same 81 = .ok (.getfield 42, 3) := by decide +kernel
theorem dX7_same_84 : decode cX7_same 84 = .ok (.iconst 1, 1) := by decide +kernel
theorem dX7_same_85 : decode cX7_same 85 = .ok (.laload, 1) := by decide +kernel
theorem dX7_same_86 : decode cX7_same 86 = .ok (.lcmp, 1) := by decide +kernel
theorem dX7_same_87 : decode cX7_same 87 = .ok (.ifCond .ne 31, 3) := by decide +kernel
theorem dX7_same_90 : decode cX7_same 90 = .ok (.lload 7, 2) := by decide +kernel
theorem dX7_same_92 : decode cX7_same 92 = .ok (.aload_n 0, 1) := by decide +kernel
theorem dX7_same_93 : decode cX7_same 93 = .ok (.getfield 42, 3) := by decide +kernel
theorem dX7_same_96 : decode cX7_same 96 = .ok (.iconst 2, 1) := by decide +kernel
theorem dX7_same_97 : decode cX7_same 97 = .ok (.laload, 1) := by decide +kernel
theorem dX7_same_98 : decode cX7_same 98 = .ok (.lcmp, 1) := by decide +kernel
theorem dX7_same_99 : decode cX7_same 99 = .ok (.ifCond .ne 19, 3) := by decide +kernel
theorem dX7_same_102 : decode cX7_same 102 = .ok (.lload 9, 2) := by decide +kernel
theorem dX7_same_104 : decode cX7_same 104 = .ok (.aload_n 0, 1) := by decide +kernel
theorem dX7_same_105 : decode cX7_same 105 = .ok (.getfield 42, 3) := by decide +kernel
theorem dX7_same_108 : decode cX7_same 108 = .ok (.iconst 3, 1) := by decide +kernel
theorem dX7_same_109 : decode cX7_same 109 = .ok (.laload, 1) := by decide +kernel
theorem dX7_same_110 : decode cX7_same 110 = .ok (.lcmp, 1) := by decide +kernel
theorem dX7_same_111 : decode cX7_same 111 = .ok (.ifCond .ne 7, 3) := by decide +kernel
theorem dX7_same_114 : decode cX7_same 114 = .ok (.iconst 1, 1) := by decide +kernel
theorem dX7_same_115 : decode cX7_same 115 = .ok (.goto 4, 3) := by decide +kernel
theorem dX7_same_118 : decode cX7_same 118 = .ok (.iconst 0, 1) := by decide +kernel
theorem dX7_same_119 : decode cX7_same 119 = .ok (.ireturn, 1) := by decide +kernel
theorem dX7_touch_0 : decode cX7_touch 0 = .ok (.aload_n 0, 1) := by decide +kernel
theorem dX7_touch_1 : decode cX7_touch 1 = .ok (.iload_n 1, 1) := by decide +kernel
theorem dX7_touch_2 : decode cX7_touch 2 = .ok (.invokevirtual 115, 3) := by decide +kernel
theorem dX7_touch_5 : decode cX7_touch 5 = .ok (.ifCond .eq 36, 3) := by decide +kernel
theorem dX7_touch_8 : decode cX7_touch 8 = .ok (.iload_n 2, 1) := by decide +kernel
theorem dX7_touch_9 : decode cX7_touch 9 = .ok (.i2l, 1) := by decide +kernel
theorem dX7_touch_10 : decode cX7_touch 10 = .ok (.lconst 0, 1) := by decide +kernel
theorem dX7_touch_11 : decode cX7_touch 11 = .ok (.ldc2_w 118, 3) := by decide +kernel
theorem dX7_touch_14 : decode cX7_touch 14 = .ok (.invokestatic 63, 3) := by decide +kernel
theorem dX7_touch_17 : decode cX7_touch 17 = .ok (.ifCond .eq 24, 3) := by decide +kernel
theorem dX7_touch_20 : decode cX7_touch 20 = .ok (.aload_n 0, 1) := by decide +kernel
theorem dX7_touch_21 : decode cX7_touch 21 = .ok (.iload_n 3, 1) := by decide +kernel
theorem dX7_touch_22 : decode cX7_touch 22 = .ok (.invokevirtual 115, 3) := by decide +kernel
theorem dX7_touch_25 : decode cX7_touch 25 = .ok (.ifCond .eq 16, 3) := by decide +kernel
theorem dX7_touch_28 : decode cX7_touch 28 = .ok (.iload 4, 2) := by decide +kernel
theorem dX7_touch_30 : decode cX7_touch 30 = .ok (.i2l, 1) := by decide +kernel
theorem dX7_touch_31 : decode cX7_touch 31 = .ok (.lconst 0, 1) := by decide +kernel
theorem dX7_touch_32 : decode cX7_touch 32 = .ok (.ldc2_w 118, 3) := by decide +kernel
theorem dX7_touch_35 : decode cX7_touch 35 = .ok (.invokestatic 63, 3) := by decide +kernel
theorem dX7_touch_38 : decode cX7_touch 38 = .ok (.ifCond .ne 5, 3) := by decide +kernel
theorem dX7_touch_41 : decode cX7_touch 41 = .ok (.iconst (-1), 1) := by decide +kernel
theorem dX7_touch_42 : decode cX7_touch 42 = .ok (.ireturn, 1) := by decide +kernel
theorem dX7_touch_43 : decode cX7_touch 43 = .ok (.bipush 12, 2) := by decide +kernel
theorem dX7_touch_45 : decode cX7_touch 45 = .ok (.iload_n 1, 1) := by decide +kernel
theorem dX7_touch_46 : decode cX7_touch 46 = .ok (.imul, 1) := by decide +kernel
theorem dX7_touch_47 : decode cX7_touch 47 = .ok (.iconst 3, 1) := by decide +kernel
theorem dX7_touch_48 : decode cX7_touch 48 = .ok (.iload_n 2, 1) := by decide +kernel
theorem dX7_touch_49 : decode cX7_touch 49 = .ok (.imul, 1) := by decide +kernel
theorem dX7_touch_50 : decode cX7_touch 50 = .ok (.iadd, 1) := by decide +kernel
theorem dX7_touch_51 : decode cX7_touch 51 = .ok (.istore 5, 2) := by decide +kernel
theorem dX7_touch_53 : decode cX7_touch 53 = .ok (.bipush 12, 2) := by decide +kernel
theorem dX7_touch_55 : decode cX7_touch 55 = .ok (.iload_n 3, 1) := by decide +kernel
theorem dX7_touch_56 : decode cX7_touch 56 = .ok (.imul, 1) := by decide +kernel
theorem dX7_touch_57 : decode cX7_touch 57 = .ok (.iconst 3, 1) := by decide +kernel
theorem dX7_touch_58 : decode cX7_touch 58 = .ok (.iload 4, 2) := by decide +kernel
theorem dX7_touch_60 : decode cX7_touch 60 = .ok (.imul, 1) := by decide +kernel
theorem dX7_touch_61 : decode cX7_touch 61 = .ok (.iadd, 1) := by decide +kernel
theorem dX7_touch_62 : decode cX7_touch 62 = .ok (.istore 6, 2) := by decide +kernel
theorem dX7_touch_64 : decode cX7_touch 64 = .ok (.aload_n 0, 1) := by decide +kernel
theorem dX7_touch_65 : decode cX7_touch 65 = .ok (.getfield 23, 3) := by decide +kernel
theorem dX7_touch_68 : decode cX7_touch 68 = .ok (.iload 5, 2) := by decide +kernel
theorem dX7_touch_70 : decode cX7_touch 70 = .ok (.iaload, 1) := by decide +kernel
theorem dX7_touch_71 : decode cX7_touch 71 = .ok (.i2l, 1) := by decide +kernel
theorem dX7_touch_72 : decode cX7_touch 72 = .ok (.aload_n 0, 1) := by decide +kernel
theorem dX7_touch_73 : decode cX7_touch 73 = .ok (.getfield 23, 3) := by decide +kernel
theorem dX7_touch_76 : decode cX7_touch 76 = .ok (.iload 5, 2) := by decide +kernel
theorem dX7_touch_78 : decode cX7_touch 78 = .ok (.iconst 1, 1) := by decide +kernel
theorem dX7_touch_79 : decode cX7_touch 79 = .ok (.iadd, 1) := by decide +kernel
theorem dX7_touch_80 : decode cX7_touch 80 = .ok (.iaload, 1) := by decide +kernel
theorem dX7_touch_81 : decode cX7_touch 81 = .ok (.i2l, 1) := by decide +kernel
theorem dX7_touch_82 : decode cX7_touch 82 = .ok (.aload_n 0, 1) := by decide +kernel
theorem dX7_touch_83 : decode cX7_touch 83 = .ok (.getfield 23, 3) := by decide +kernel
theorem dX7_touch_86 : decode cX7_touch 86 = .ok (.iload 5, 2) := by decide +kernel
theorem dX7_touch_88 : decode cX7_touch 88 = .ok (.iconst 2, 1) := by decide +kernel
theorem dX7_touch_89 : decode cX7_touch 89 = .ok (.iadd, 1) := by decide +kernel
theorem dX7_touch_90 : decode cX7_touch 90 = .ok (.iaload, 1) := by decide +kernel
theorem dX7_touch_91 : decode cX7_touch 91 = .ok (.i2l, 1) := by decide +kernel
theorem dX7_touch_92 : decode cX7_touch 92 = .ok (.aload_n 0, 1) := by decide +kernel
theorem dX7_touch_93 : decode cX7_touch 93 = .ok (.getfield 23, 3) := by decide +kernel
theorem dX7_touch_96 : decode cX7_touch 96 = .ok (.iload 6, 2) := by decide +kernel
theorem dX7_touch_98 : decode cX7_touch 98 = .ok (.iaload, 1) := by decide +kernel
theorem dX7_touch_99 : decode cX7_touch 99 = .ok (.i2l, 1) := by decide +kernel
theorem dX7_touch_100 : decode cX7_touch 100 = .ok (.aload_n 0, 1) := by decide +kernel
theorem dX7_touch_101 : decode cX7_touch 101 = .ok (.getfield 23, 3) := by decide +kernel
theorem dX7_touch_104 : decode cX7_touch 104 = .ok (.iload 6, 2) := by decide +kernel
theorem dX7_touch_106 : decode cX7_touch 106 = .ok (.iconst 1, 1) := by decide +kernel
theorem dX7_touch_107 : decode cX7_touch 107 = .ok (.iadd, 1) := by decide +kernel
theorem dX7_touch_108 : decode cX7_touch 108 = .ok (.iaload, 1) := by decide +kernel
theorem dX7_touch_109 : decode cX7_touch 109 = .ok (.i2l, 1) := by decide +kernel
theorem dX7_touch_110 : decode cX7_touch 110 = .ok (.aload_n 0, 1) := by decide +kernel
theorem dX7_touch_111 : decode cX7_touch 111 = .ok (.getfield 23, 3) := by decide +kernel
theorem dX7_touch_114 : decode cX7_touch 114 = .ok (.iload 6, 2) := by decide +kernel
theorem dX7_touch_116 : decode cX7_touch 116 = .ok (.iconst 2, 1) := by decide +kernel
theorem dX7_touch_117 : decode cX7_touch 117 = .ok (.iadd, 1) := by decide +kernel
theorem dX7_touch_118 : decode cX7_touch 118 = .ok (.iaload, 1) := by decide +kernel
theorem dX7_touch_119 : decode cX7_touch 119 = .ok (.i2l, 1) := by decide +kernel
theorem dX7_touch_120 : decode cX7_touch 120 = .ok (.invokestatic 101, 3) := by decide +kernel
theorem dX7_touch_123 : decode cX7_touch 123 = .ok (.ifCond .eq 7, 3) := by decide +kernel
theorem dX7_touch_126 : decode cX7_touch 126 = .ok (.iconst 1, 1) := by decide +kernel
theorem dX7_touch_127 : decode cX7_touch 127 = .ok (.goto 4, 3) := by decide +kernel
theorem dX7_touch_130 : decode cX7_touch 130 = .ok (.iconst 0, 1) := by decide +kernel
theorem dX7_touch_131 : decode cX7_touch 131 = .ok (.ireturn, 1) := by decide +kernel
theorem dX7_lists_0 : decode cX7_lists 0 = .ok (.aload_n 0, 1) := by decide +kernel
theorem dX7_lists_1 : decode cX7_lists 1 = .ok (.getfield 26, 3) := by decide +kernel
theorem dX7_lists_4 : decode cX7_lists 4 = .ok (.iconst 3, 1) := by decide +kernel
theorem dX7_lists_5 : decode cX7_lists 5 = .ok (.iload_n 1, 1) := by decide +kernel
theorem dX7_lists_6 : decode cX7_lists 6 = .ok (.imul, 1) := by decide +kernel
theorem dX7_lists_7 : decode cX7_lists 7 = .ok (.laload, 1) := by decide +kernel
theorem dX7_lists_8 : decode cX7_lists 8 = .ok (.lstore_n 2, 1) := by decide +kernel
theorem dX7_lists_9 : decode cX7_lists 9 = .ok (.aload_n 0, 1) := by decide +kernel
theorem dX7_lists_10 : decode cX7_lists 10 = .ok (.getfield 26, 3) := by decide +kernel
theorem dX7_lists_13 : decode cX7_lists 13 = .ok (.iconst 3, 1) := by decide +kernel
theorem dX7_lists_14 : decode cX7_lists 14 = .ok (.iload_n 1, 1) := by decide +kernel
theorem dX7_lists_15 : decode cX7_lists 15 = .ok (.imul, 1) := by decide +kernel
theorem dX7_lists_16 : decode cX7_lists 16 = .ok (.iconst 1, 1) := by decide +kernel
theorem dX7_lists_17 : decode cX7_lists 17 = .ok (.iadd, 1) := by decide +kernel
theorem dX7_lists_18 : decode cX7_lists 18 = .ok (.laload, 1) := by decide +kernel
theorem dX7_lists_19 : decode cX7_lists 19 = .ok (.lstore 4, 2) := by decide +kernel
theorem dX7_lists_21 : decode cX7_lists 21 = .ok (.aload_n 0, 1) := by decide +kernel
theorem dX7_lists_22 : decode cX7_lists 22 = .ok (.getfield 26, 3) := by decide +kernel
theorem dX7_lists_25 : decode cX7_lists 25 = .ok (.iconst 3, 1) := by decide +kernel
theorem dX7_lists_26 : decode cX7_lists 26 = .ok (.iload_n 1, 1) := by decide +kernel
theorem dX7_lists_27 : decode cX7_lists 27 = .ok (.imul, 1) := by decide +kernel
theorem dX7_lists_28 : decode cX7_lists 28 = .ok (.iconst 2, 1) := by decide +kernel
theorem dX7_lists_29 : decode cX7_lists 29 = .ok (.iadd, 1) := by decide +kernel
theorem dX7_lists_30 : decode cX7_lists 30 = .ok (.laload, 1) := by decide +kernel
theorem dX7_lists_31 : decode cX7_lists 31 = .ok (.lstore 6, 2) := by decide +kernel
theorem dX7_lists_33 : decode cX7_lists 33 = .ok (.lload_n 2, 1) := by decide +kernel
theorem dX7_lists_34 : decode cX7_lists 34 = .ok (.invokestatic 90, 3) := by decide +kernel
theorem dX7_lists_37 : decode cX7_lists 37 = .ok (.ifCond .eq 19, 3) := by decide +kernel
theorem dX7_lists_40 : decode cX7_lists 40 = .ok (.lload 4, 2) := by decide +kernel
theorem dX7_lists_42 : decode cX7_lists 42 = .ok (.invokestatic 94, 3) := by decide +kernel
theorem dX7_lists_45 : decode cX7_lists 45 = .ok (.ifCond .eq 11, 3) := by decide +kernel
theorem dX7_lists_48 : decode cX7_lists 48 = .ok (.lload 6, 2) := by decide +kernel
theorem dX7_lists_50 : decode cX7_lists 50 = .ok (.invokestatic 94, 3) := by decide +kernel
theorem dX7_lists_53 : decode cX7_lists 53 = .ok (.ifCond .ne 5, 3) := by decide +kernel
theorem dX7_lists_56 : decode cX7_lists 56 = .ok (.iconst 0, 1) := by decide +kernel
theorem dX7_lists_57 : decode cX7_lists 57 = .ok (.ireturn, 1) := by decide +kernel
theorem dX7_lists_58 : decode cX7_lists 58 = .ok (.aload_n 0, 1) := by decide +kernel
theorem dX7_lists_59 : decode cX7_lists 59 = .ok (.getfield 144, 3) := by decide +kernel
theorem dX7_lists_62 : decode cX7_lists 62 = .ok (.istore 8, 2) := by decide +kernel
theorem dX7_lists_64 : decode cX7_lists 64 = .ok (.iload 8, 2) := by decide +kernel
theorem dX7_lists_66 : decode cX7_lists 66 = .ok (.ifCond .le 25, 3) := by decide +kernel
theorem dX7_lists_69 : decode cX7_lists 69 = .ok (.aload_n 0, 1) := by decide +kernel
theorem dX7_lists_70 : decode cX7_lists 70 = .ok (.iload 8, 2) := by decide +kernel
theorem dX7_lists_72 : decode cX7_lists 72 = .ok (.iconst 1, 1) := by decide +kernel
theorem dX7_lists_73 : decode cX7_lists 73 = .ok (.isub, 1) := by decide +kernel
theorem dX7_lists_74 : decode cX7_lists 74 = .ok (.lload_n 2, 1) := by decide +kernel
theorem dX7_lists_75 : decode cX7_lists 75 = .ok (.lload 4, 2) := by decide +kernel
theorem dX7_lists_77 : decode cX7_lists 77 = .ok (.lload 6, 2) := by decide +kernel
theorem dX7_lists_79 : decode cX7_lists 79 = .ok (.invokevirtual 147, 3) := by decide +kernel
theorem dX7_lists_82 : decode cX7_lists 82 = .ok (.ifCond .eq 9, 3) := by decide +kernel
theorem dX7_lists_85 : decode cX7_lists 85 = .ok (.iinc 8 (-1), 3) := by decide +kernel
theorem dX7_lists_88 : decode cX7_lists 88 = .ok (.goto (-24), 3) := by decide +kernel
theorem dX7_lists_91 : decode cX7_lists 91 = .ok (.iload 8, 2) := by decide +kernel
theorem dX7_lists_93 : decode cX7_lists 93 = .ok (.ifCond .le 55, 3) := by decide +kernel
theorem dX7_lists_96 : decode cX7_lists 96 = .ok (.aload_n 0, 1) := by decide +kernel
theorem dX7_lists_97 : decode cX7_lists 97 = .ok (.getfield 51, 3) := by decide +kernel
theorem dX7_lists_100 : decode cX7_lists 100 = .ok (.iconst 3, 1) := by decide +kernel
theorem dX7_lists_101 : decode cX7_lists 101 = .ok (.iload 8, 2) := by decide +kernel
theorem dX7_lists_103 : decode cX7_lists 103 = .ok (.imul, 1) := by decide +kernel
theorem dX7_lists_104 : decode cX7_lists 104 = .ok (.iconst 3, 1) := by decide +kernel
theorem dX7_lists_105 : decode cX7_lists 105 = .ok (.isub, 1) := by decide +kernel
theorem dX7_lists_106 : decode cX7_lists 106 = .ok (.laload, 1) := by decide +kernel
theorem dX7_lists_107 : decode cX7_lists 107 = .ok (.lload_n 2, 1) := by decide +kernel
theorem dX7_lists_108 : decode cX7_lists 108 = .ok (.lcmp, 1) := by decide +kernel
theorem dX7_lists_109 : decode cX7_lists 109 = .ok (.ifCond .ne 39, 3) := by decide +kernel
theorem dX7_lists_112 : decode cX7_lists 112 = .ok (.aload_n 0, 1) := by decide +kernel
theorem dX7_lists_113 : decode cX7_lists 113 = .ok (.getfield 51, 3) := by decide +kernel
theorem dX7_lists_116 : decode cX7_lists 116 = .ok (.iconst 3, 1) := by decide +kernel
theorem dX7_lists_117 : decode cX7_lists 117 = .ok (.iload 8, 2) := by decide +kernel
theorem dX7_lists_119 : decode cX7_lists 119 = .ok (.imul, 1) := by decide +kernel
theorem dX7_lists_120 : decode cX7_lists 120 = .ok (.iconst 2, 1) := by decide +kernel
theorem dX7_lists_121 : decode cX7_lists 121 = .ok (.isub, 1) := by decide +kernel
theorem dX7_lists_122 : decode cX7_lists 122 = .ok (.laload, 1) := by decide +kernel
theorem dX7_lists_123 : decode cX7_lists 123 = .ok (.lload 4, 2) := by decide +kernel
theorem dX7_lists_125 : decode cX7_lists 125 = .ok (.lcmp, 1) := by decide +kernel
theorem dX7_lists_126 : decode cX7_lists 126 = .ok (.ifCond .ne 22, 3) := by decide +kernel
theorem dX7_lists_129 : decode cX7_lists 129 = .ok (.aload_n 0, 1) := by decide +kernel
theorem dX7_lists_130 : decode cX7_lists 130 = .ok (.getfield 51, 3) := by decide +kernel
theorem dX7_lists_133 : decode cX7_lists 133 = .ok (.iconst 3, 1) := by decide +kernel
theorem dX7_lists_134 : decode cX7_lists 134 = .ok (.iload 8, 2) := by decide +kernel
theorem dX7_lists_136 : decode cX7_lists 136 = .ok (.imul, 1) := by decide +kernel
theorem dX7_lists_137 : decode cX7_lists 137 = .ok (.iconst 1, 1) := by decide +kernel
theorem dX7_lists_138 : decode cX7_lists 138 = .ok (.isub, 1) := by decide +kernel
theorem dX7_lists_139 : decode cX7_lists 139 = .ok (.laload, 1) := by decide +kernel
theorem dX7_lists_140 : decode cX7_lists 140 = .ok (.lload 6, 2) := by decide +kernel
theorem dX7_lists_142 : decode cX7_lists 142 = .ok (.lcmp, 1) := by decide +kernel
theorem dX7_lists_143 : decode cX7_lists 143 = .ok (.ifCond .ne 5, 3) := by decide +kernel
theorem dX7_lists_146 : decode cX7_lists 146 = .ok (.iconst 1, 1) := by decide +kernel
theorem dX7_lists_147 : decode cX7_lists 147 = .ok (.ireturn, 1) := by decide +kernel
theorem dX7_lists_148 : decode cX7_lists 148 = .ok (.aload_n 0, 1) := by decide +kernel
theorem dX7_lists_149 : decode cX7_lists 149 = .ok (.getfield 144, 3) := by decide +kernel
theorem dX7_lists_152 : decode cX7_lists 152 = .ok (.sipush 240, 3) := by decide +kernel
theorem dX7_lists_155 : decode cX7_lists 155 = .ok (.if_icmp .ne 5, 3) := by decide +kernel
theorem dX7_lists_158 : decode cX7_lists 158 = .ok (.iconst 0, 1) := by decide +kernel
theorem dX7_lists_159 : decode cX7_lists 159 = .ok (.ireturn, 1) := by decide +kernel
theorem dX7_lists_160 : decode cX7_lists 160 = .ok (.iconst 3, 1) := by decide +kernel
theorem dX7_lists_161 : decode cX7_lists 161 = .ok (.aload_n 0, 1) := by decide +kernel
theorem dX7_lists_162 : decode cX7_lists 162 = .ok (.getfield 144, 3) := by decide +kernel
theorem dX7_lists_165 : decode cX7_lists 165 = .ok (.imul, 1) := by decide +kernel
theorem dX7_lists_166 : decode cX7_lists 166 = .ok (.iconst 1, 1) := by decide +kernel
theorem dX7_lists_167 : decode cX7_lists 167 = .ok (.isub, 1) := by decide +kernel
theorem dX7_lists_168 : decode cX7_lists 168 = .ok (.istore 9, 2) := by decide +kernel
theorem dX7_lists_170 : decode cX7_lists 170 = .ok (.iload 9, 2) := by decide +kernel
theorem dX7_lists_172 : decode cX7_lists 172 = .ok (.iconst 3, 1) := by decide +kernel
theorem dX7_lists_173 : decode cX7_lists 173 = .ok (.iload 8, 2) := by decide +kernel
theorem dX7_lists_175 : decode cX7_lists 175 = .ok (.imul, 1) := by decide +kernel
theorem dX7_lists_176 : decode cX7_lists 176 = .ok (.if_icmp .lt 25, 3) := by decide +kernel
theorem dX7_lists_179 : decode cX7_lists 179 = .ok (.aload_n 0, 1) := by decide +kernel
theorem dX7_lists_180 : decode cX7_lists 180 = .ok (.getfield 51, 3) := by decide +kernel
theorem dX7_lists_183 : decode cX7_lists 183 = .ok (.iload 9, 2) := by decide +kernel
theorem dX7_lists_185 : decode cX7_lists 185 = .ok (.iconst 3, 1) := by decide +kernel
theorem dX7_lists_186 : decode cX7_lists 186 = .ok (.iadd, 1) := by decide +kernel
theorem dX7_lists_187 : decode cX7_lists 187 = .ok (.aload_n 0, 1) := by decide +kernel
theorem dX7_lists_188 : decode cX7_lists 188 = .ok (.getfield 51, 3) := by decide +kernel
theorem dX7_lists_191 : decode cX7_lists 191 = .ok (.iload 9, 2) := by decide +kernel
theorem dX7_lists_193 : decode cX7_lists 193 = .ok (.laload, 1) := by decide +kernel
theorem dX7_lists_194 : decode cX7_lists 194 = .ok (.lastore, 1) := by decide +kernel
theorem dX7_lists_195 : decode cX7_lists 195 = .ok (.iinc 9 (-1), 3) := by decide +kernel
theorem dX7_lists_198 : decode cX7_lists 198 = .ok (.goto (-28), 3) := by decide +kernel
theorem dX7_lists_201 : decode cX7_lists 201 = .ok (.aload_n 0, 1) := by decide +kernel
theorem dX7_lists_202 : decode cX7_lists 202 = .ok (.getfield 51, 3) := by decide +kernel
theorem dX7_lists_205 : decode cX7_lists 205 = .ok (.iconst 3, 1) := by decide +kernel
theorem dX7_lists_206 : decode cX7_lists 206 = .ok (.iload 8, 2) := by decide +kernel
theorem dX7_lists_208 : decode cX7_lists 208 = .ok (.imul, 1) := by decide +kernel
theorem dX7_lists_209 : decode cX7_lists 209 = .ok (.lload_n 2, 1) := by decide +kernel
theorem dX7_lists_210 : decode cX7_lists 210 = .ok (.lastore, 1) := by decide +kernel
theorem dX7_lists_211 : decode cX7_lists 211 = .ok (.aload_n 0, 1) := by decide +kernel
theorem dX7_lists_212 : decode cX7_lists 212 = .ok (.getfield 51, 3) := by decide +kernel
theorem dX7_lists_215 : decode cX7_lists 215 = .ok (.iconst 3, 1) := by decide +kernel
theorem dX7_lists_216 : decode cX7_lists 216 = .ok (.iload 8, 2) := by decide +kernel
theorem dX7_lists_218 : decode cX7_lists 218 = .ok (.imul, 1) := by decide +kernel
theorem dX7_lists_219 : decode cX7_lists 219 = .ok (.iconst 1, 1) := by decide +kernel
theorem dX7_lists_220 : decode cX7_lists 220 = .ok (.iadd, 1) := by decide +kernel
theorem dX7_lists_221 : decode cX7_lists 221 = .ok (.lload 4, 2) := by decide +kernel
theorem dX7_lists_223 : decode cX7_lists 223 = .ok (.lastore, 1) := by decide +kernel
theorem dX7_lists_224 : decode cX7_lists 224 = .ok (.aload_n 0, 1) := by decide +kernel
theorem dX7_lists_225 : decode cX7_lists 225 = .ok (.getfield 51, 3) := by decide +kernel
theorem dX7_lists_228 : decode cX7_lists 228 = .ok (.iconst 3, 1) := by decide +kernel
theorem dX7_lists_229 : decode cX7_lists 229 = .ok (.iload 8, 2) := by decide +kernel
theorem dX7_lists_231 : decode cX7_lists 231 = .ok (.imul, 1) := by decide +kernel
theorem dX7_lists_232 : decode cX7_lists 232 = .ok (.iconst 2, 1) := by decide +kernel
theorem dX7_lists_233 : decode cX7_lists 233 = .ok (.iadd, 1) := by decide +kernel
theorem dX7_lists_234 : decode cX7_lists 234 = .ok (.lload 6, 2) := by decide +kernel
theorem dX7_lists_236 : decode cX7_lists 236 = .ok (.lastore, 1) := by decide +kernel
theorem dX7_lists_237 : decode cX7_lists 237 = .ok (.aload_n 0, 1) := by decide +kernel
theorem dX7_lists_238 : decode cX7_lists 238 = .ok (.dup, 1) := by decide +kernel
theorem dX7_lists_239 : decode cX7_lists 239 = .ok (.getfield 144, 3) := by decide +kernel
theorem dX7_lists_242 : decode cX7_lists 242 = .ok (.iconst 1, 1) := by decide +kernel
theorem dX7_lists_243 : decode cX7_lists 243 = .ok (.iadd, 1) := by decide +kernel
theorem dX7_lists_244 : decode cX7_lists 244 = .ok (.putfield 144, 3) := by decide +kernel
theorem dX7_lists_247 : decode cX7_lists 247 = .ok (.iconst 1, 1) := by decide +kernel
theorem dX7_lists_248 : decode cX7_lists 248 = .ok (.ireturn, 1) := by decide +kernel
theorem dX7_isBehind_0 : decode cX7_isBehind 0 = .ok (.aload_n 0, 1) := by decide +kernel
theorem dX7_isBehind_1 : decode cX7_isBehind 1 = .ok (.getfield 51, 3) := by decide +kernel
theorem dX7_isBehind_4 : decode cX7_isBehind 4 = .ok (.iconst 3, 1) := by decide +kernel
theorem dX7_isBehind_5 : decode cX7_isBehind 5 = .ok (.iload_n 1, 1) := by decide +kernel
theorem dX7_isBehind_6 : decode cX7_isBehind 6 = .ok (.imul, 1) := by decide +kernel
theorem dX7_isBehind_7 : decode cX7_isBehind 7 = .ok (.laload, 1) := by decide +kernel
theorem dX7_isBehind_8 : decode cX7_isBehind 8 = .ok (.lstore 8, 2) := by decide +kernel
theorem dX7_isBehind_10 : decode cX7_isBehind 10 = .ok (.aload_n 0, 1) := by decide +kernel
theorem dX7_isBehind_11 : decode cX7_isBehind 11 = .ok (.getfield 51, 3) := by decide +kernel
theorem dX7_isBehind_14 : decode cX7_isBehind 14 = .ok (.iconst 3, 1) := by decide +kernel
theorem dX7_isBehind_15 : decode cX7_isBehind 15 = .ok (.iload_n 1, 1) := by decide +kernel
theorem dX7_isBehind_16 : decode cX7_isBehind 16 = .ok (.imul, 1) := by decide +kernel
theorem dX7_isBehind_17 : decode cX7_isBehind 17 = .ok (.iconst 1, 1) := by decide +kernel
theorem dX7_isBehind_18 : decode cX7_isBehind 18 = .ok (.iadd, 1) := by decide +kernel
theorem dX7_isBehind_19 : decode cX7_isBehind 19 = .ok (.laload, 1) := by decide +kernel
theorem dX7_isBehind_20 : decode cX7_isBehind 20 = .ok (.lstore 10, 2) := by decide +kernel
theorem dX7_isBehind_22 : decode cX7_isBehind 22 = .ok (.lload 8, 2) := by decide +kernel
theorem dX7_isBehind_24 : decode cX7_isBehind 24 = .ok (.lload_n 2, 1) := by decide +kernel
theorem dX7_isBehind_25 : decode cX7_isBehind 25 = .ok (.lcmp, 1) := by decide +kernel
theorem dX7_isBehind_26 : decode cX7_isBehind 26 = .ok (.ifCond .gt 42, 3) := by decide +kernel
theorem dX7_isBehind_29 : decode cX7_isBehind 29 = .ok (.lload 8, 2) := by decide +kernel
theorem dX7_isBehind_31 : decode cX7_isBehind 31 = .ok (.lload_n 2, 1) := by decide +kernel
theorem dX7_isBehind_32 : decode cX7_isBehind 32 = .ok (.lcmp, 1) := by decide +kernel
theorem dX7_isBehind_33 : decode cX7_isBehind 33 = .ok (.ifCond .ne 39, 3) := by decide +kernel
theorem dX7_isBehind_36 : decode cX7_isBehind 36 = .ok (.lload 10, 2) := by decide +kernel
theorem dX7_isBehind_38 : decode cX7_isBehind 38 = .ok (.lload 4, 2) := by decide +kernel
theorem dX7_isBehind_40 : decode cX7_isBehind 40 = .ok (.lcmp, 1) := by decide +kernel
theorem dX7_isBehind_41 : decode cX7_isBehind 41 = .ok (.ifCond .gt 27, 3) := by decide +kernel
theorem dX7_isBehind_44 : decode cX7_isBehind 44 = .ok (.lload 10, 2) := by decide +kernel
theorem dX7_isBehind_46 : decode cX7_isBehind 46 = .ok (.lload 4, 2) := by decide +kernel
theorem dX7_isBehind_48 : decode cX7_isBehind 48 = .ok (.lcmp, 1) := by decide +kernel
theorem dX7_isBehind_49 : decode cX7_isBehind 49 = .ok (.ifCond .ne 23, 3) := by decide +kernel
theorem dX7_isBehind_52 : decode cX7_isBehind 52 = .ok (.aload_n 0, 1) := by decide +kernel
theorem dX7_isBehind_53 : decode cX7_isBehind 53 = .ok (.getfield 51, 3) := by decide +kernel
theorem dX7_isBehind_56 : decode cX7_isBehind 56 = .ok (.iconst 3, 1) := by decide +kernel
theorem dX7_isBehind_57 : decode cX7_isBehind 57 = .ok (.iload_n 1, 1) := by decide +kernel
theorem dX7_isBehind_58 : decode cX7_isBehind 58 = .ok (.imul, 1) := by decide +kernel
theorem dX7_isBehind_59 : decode cX7_isBehind 59 = .ok (.iconst 2, 1) := by decide +kernel
theorem dX7_isBehind_60 : decode cX7_isBehind 60 = .ok (.iadd, 1) := by decide +kernel
theorem dX7_isBehind_61 : decode cX7_isBehind 61 = .ok (.laload, 1) := by decide +kernel
theorem dX7_isBehind_62 : decode cX7_isBehind 62 = .ok (.lload 6, 2) := by decide +kernel
theorem dX7_isBehind_64 : decode cX7_isBehind 64 = .ok (.lcmp, 1) := by decide +kernel
theorem dX7_isBehind_65 : decode cX7_isBehind 65 = .ok (.ifCond .le 7, 3) := by decide +kernel
theorem dX7_isBehind_68 : decode cX7_isBehind 68 = .ok (.iconst 1, 1) := by decide +kernel
theorem dX7_isBehind_69 : decode cX7_isBehind 69 = .ok (.goto 4, 3) := by decide +kernel
theorem dX7_isBehind_72 : decode cX7_isBehind 72 = .ok (.iconst 0, 1) := by decide +kernel
theorem dX7_isBehind_73 : decode cX7_isBehind 73 = .ok (.ireturn, 1) := by decide +kernel
theorem dX7_push_0 : decode cX7_push 0 = .ok (.aload_n 0, 1) := by decide +kernel
theorem dX7_push_1 : decode cX7_push 1 = .ok (.getfield 151, 3) := by decide +kernel
theorem dX7_push_4 : decode cX7_push 4 = .ok (.sipush 2000, 3) := by decide +kernel
theorem dX7_push_7 : decode cX7_push 7 = .ok (.if_icmp .ne 5, 3) := by decide +kernel
theorem dX7_push_10 : decode cX7_push 10 = .ok (.iconst 0, 1) := by decide +kernel
theorem dX7_push_11 : decode cX7_push 11 = .ok (.ireturn, 1) := by decide +kernel
theorem dX7_push_12 : decode cX7_push 12 = .ok (.iconst 0, 1) := by decide +kernel
theorem dX7_push_13 : decode cX7_push 13 = .ok (.istore_n 2, 1) := by decide +kernel
theorem dX7_push_14 : decode cX7_push 14 = .ok (.iload_n 2, 1) := by decide +kernel
theorem dX7_push_15 : decode cX7_push 15 = .ok (.bipush 12, 2) := by decide +kernel
theorem dX7_push_17 : decode cX7_push 17 = .ok (.if_icmp .ge 29, 3) := by decide +kernel
theorem dX7_push_20 : decode cX7_push 20 = .ok (.aload_n 0, 1) := by decide +kernel
theorem dX7_push_21 : decode cX7_push 21 = .ok (.getfield 45, 3) := by decide +kernel
theorem dX7_push_24 : decode cX7_push 24 = .ok (.bipush 12, 2) := by decide +kernel
theorem dX7_push_26 : decode cX7_push 26 = .ok (.aload_n 0, 1) := by decide +kernel
theorem dX7_push_27 : decode cX7_push 27 = .ok (.getfield 151, 3) := by decide +kernel
theorem dX7_push_30 : decode cX7_push 30 = .ok (.imul, 1) := by decide +kernel
theorem dX7_push_31 : decode cX7_push 31 = .ok (.iload_n 2, 1) := by decide +kernel
theorem dX7_push_32 : decode cX7_push 32 = .ok (.iadd, 1) := by decide +kernel
theorem dX7_push_33 : decode cX7_push 33 = .ok (.aload_n 0, 1) := by decide +kernel
theorem dX7_push_34 : decode cX7_push 34 = .ok (.getfield 26, 3) := by decide +kernel
theorem dX7_push_37 : decode cX7_push 37 = .ok (.iload_n 2, 1) := by decide +kernel
theorem dX7_push_38 : decode cX7_push 38 = .ok (.laload, 1) := by decide +kernel
theorem dX7_push_39 : decode cX7_push 39 = .ok (.lastore, 1) := by decide +kernel
theorem dX7_push_40 : decode cX7_push 40 = .ok (.iinc 2 1, 3) := by decide +kernel
theorem dX7_push_43 : decode cX7_push 43 = .ok (.goto (-29), 3) := by decide +kernel
theorem dX7_push_46 : decode cX7_push 46 = .ok (.aload_n 0, 1) := by decide +kernel
theorem dX7_push_47 : decode cX7_push 47 = .ok (.getfield 48, 3) := by decide +kernel
theorem dX7_push_50 : decode cX7_push 50 = .ok (.aload_n 0, 1) := by decide +kernel
theorem dX7_push_51 : decode cX7_push 51 = .ok (.getfield 151, 3) := by decide +kernel
theorem dX7_push_54 : decode cX7_push 54 = .ok (.iload_n 1, 1) := by decide +kernel
theorem dX7_push_55 : decode cX7_push 55 = .ok (.iastore, 1) := by decide +kernel
theorem dX7_push_56 : decode cX7_push 56 = .ok (.aload_n 0, 1) := by decide +kernel
theorem dX7_push_57 : decode cX7_push 57 = .ok (.dup, 1) := by decide +kernel
theorem dX7_push_58 : decode cX7_push 58 = .ok (.getfield 151, 3) := by decide +kernel
theorem dX7_push_61 : decode cX7_push 61 = .ok (.iconst 1, 1) := by decide +kernel
theorem dX7_push_62 : decode cX7_push 62 = .ok (.iadd, 1) := by decide +kernel
theorem dX7_push_63 : decode cX7_push 63 = .ok (.putfield 151, 3) := by decide +kernel
theorem dX7_push_66 : decode cX7_push 66 = .ok (.iconst 1, 1) := by decide +kernel
theorem dX7_push_67 : decode cX7_push 67 = .ok (.ireturn, 1) := by decide +kernel
theorem dX7_pop_0 : decode cX7_pop 0 = .ok (.aload_n 0, 1) := by decide +kernel
theorem dX7_pop_1 : decode cX7_pop 1 = .ok (.dup, 1) := by decide +kernel
theorem dX7_pop_2 : decode cX7_pop 2 = .ok (.getfield 151, 3) := by decide +kernel
theorem dX7_pop_5 : decode cX7_pop 5 = .ok (.iconst 1, 1) := by decide +kernel
theorem dX7_pop_6 : decode cX7_pop 6 = .ok (.isub, 1) := by decide +kernel
theorem dX7_pop_7 : decode cX7_pop 7 = .ok (.putfield 151, 3) := by decide +kernel
theorem dX7_pop_10 : decode cX7_pop 10 = .ok (.iconst 0, 1) := by decide +kernel
theorem dX7_pop_11 : decode cX7_pop 11 = .ok (.istore_n 1, 1) := by decide +kernel
theorem dX7_pop_12 : decode cX7_pop 12 = .ok (.iload_n 1, 1) := by decide +kernel
theorem dX7_pop_13 : decode cX7_pop 13 = .ok (.bipush 12, 2) := by decide +kernel
theorem dX7_pop_15 : decode cX7_pop 15 = .ok (.if_icmp .ge 29, 3) := by decide +kernel
theorem dX7_pop_18 : decode cX7_pop 18 = .ok (.aload_n 0, 1) := by decide +kernel
theorem dX7_pop_19 : decode cX7_pop 19 = .ok (.getfield 26, 3) := by decide +kernel
theorem dX7_pop_22 : decode cX7_pop 22 = .ok (.iload_n 1, 1) := by decide +kernel
theorem dX7_pop_23 : decode cX7_pop 23 = .ok (.aload_n 0, 1) := by decide +kernel
theorem dX7_pop_24 : decode cX7_pop 24 = .ok (.getfield 45, 3) := by decide +kernel
theorem dX7_pop_27 : decode cX7_pop 27 = .ok (.bipush 12, 2) := by decide +kernel
theorem dX7_pop_29 : decode cX7_pop 29 = .ok (.aload_n 0, 1) := by decide +kernel
theorem dX7_pop_30 : decode cX7_pop 30 = .ok (.getfield 151, 3) := by decide +kernel
theorem dX7_pop_33 : decode cX7_pop 33 = .ok (.imul, 1) := by decide +kernel
theorem dX7_pop_34 : decode cX7_pop 34 = .ok (.iload_n 1, 1) := by decide +kernel
theorem dX7_pop_35 : decode cX7_pop 35 = .ok (.iadd, 1) := by decide +kernel
theorem dX7_pop_36 : decode cX7_pop 36 = .ok (.laload, 1) := by decide +kernel
theorem dX7_pop_37 : decode cX7_pop 37 = .ok (.lastore, 1) := by decide +kernel
theorem dX7_pop_38 : decode cX7_pop 38 = .ok (.iinc 1 1, 3) := by decide +kernel
theorem dX7_pop_41 : decode cX7_pop 41 = .ok (.goto (-29), 3) := by decide +kernel
theorem dX7_pop_44 : decode cX7_pop 44 = .ok (.aload_n 0, 1) := by decide +kernel
theorem dX7_pop_45 : decode cX7_pop 45 = .ok (.getfield 48, 3) := by decide +kernel
theorem dX7_pop_48 : decode cX7_pop 48 = .ok (.aload_n 0, 1) := by decide +kernel
theorem dX7_pop_49 : decode cX7_pop 49 = .ok (.getfield 151, 3) := by decide +kernel
theorem dX7_pop_52 : decode cX7_pop 52 = .ok (.iaload, 1) := by decide +kernel
theorem dX7_pop_53 : decode cX7_pop 53 = .ok (.ireturn, 1) := by decide +kernel
theorem dX7_areUpTo_0 : decode cX7_areUpTo 0 = .ok (.aload_n 0, 1) := by decide +kernel
theorem dX7_areUpTo_1 : decode cX7_areUpTo 1 = .ok (.getfield 26, 3) := by decide +kernel
theorem dX7_areUpTo_4 : decode cX7_areUpTo 4 = .ok (.iconst 0, 1) := by decide +kernel
theorem dX7_areUpTo_5 : decode cX7_areUpTo 5 = .ok (.laload, 1) := by decide +kernel
theorem dX7_areUpTo_6 : decode cX7_areUpTo 6 = .ok (.iload_n 1, 1) := by decide +kernel
theorem dX7_areUpTo_7 : decode cX7_areUpTo 7 = .ok (.i2l, 1) := by decide +kernel
theorem dX7_areUpTo_8 : decode cX7_areUpTo 8 = .ok (.lcmp, 1) := by decide +kernel
theorem dX7_areUpTo_9 : decode cX7_areUpTo 9 = .ok (.ifCond .gt 45, 3) := by decide +kernel
theorem dX7_areUpTo_12 : decode cX7_areUpTo 12 = .ok (.aload_n 0, 1) := by decide +kernel
theorem dX7_areUpTo_13 : decode cX7_areUpTo 13 = .ok (.getfield 26, 3) := by decide +kernel
theorem dX7_areUpTo_16 : decode cX7_areUpTo 16 = .ok (.iconst 3, 1) := by decide +kernel
theorem dX7_areUpTo_17 : decode cX7_areUpTo 17 = .ok (.laload, 1) := by decide +kernel
theorem dX7_areUpTo_18 : decode cX7_areUpTo 18 = .ok (.iload_n 1, 1) := by decide +kernel
theorem dX7_areUpTo_19 : decode cX7_areUpTo 19 = .ok (.i2l, 1) := by decide +kernel
theorem dX7_areUpTo_20 : decode cX7_areUpTo 20 = .ok (.lcmp, 1) := by decide +kernel
theorem dX7_areUpTo_21 : decode cX7_areUpTo 21 = .ok (.ifCond .gt 33, 3) := by decide +kernel
theorem dX7_areUpTo_24 : decode cX7_areUpTo 24 = .ok (.aload_n 0, 1) := by decide +kernel
theorem dX7_areUpTo_25 : decode cX7_areUpTo 25 = .ok (.getfield 26, 3) := by decide +kernel
theorem dX7_areUpTo_28 : decode cX7_areUpTo 28 = .ok (.bipush 6, 2) := by decide +kernel
theorem dX7_areUpTo_30 : decode cX7_areUpTo 30 = .ok (.laload, 1) := by decide +kernel
theorem dX7_areUpTo_31 : decode cX7_areUpTo 31 = .ok (.iload_n 1, 1) := by decide +kernel
theorem dX7_areUpTo_32 : decode cX7_areUpTo 32 = .ok (.i2l, 1) := by decide +kernel
theorem dX7_areUpTo_33 : decode cX7_areUpTo 33 = .ok (.lcmp, 1) := by decide +kernel
theorem dX7_areUpTo_34 : decode cX7_areUpTo 34 = .ok (.ifCond .gt 20, 3) := by decide +kernel
theorem dX7_areUpTo_37 : decode cX7_areUpTo 37 = .ok (.aload_n 0, 1) := by decide +kernel
theorem dX7_areUpTo_38 : decode cX7_areUpTo 38 = .ok (.getfield 26, 3) := by decide +kernel
theorem dX7_areUpTo_41 : decode cX7_areUpTo 41 = .ok (.bipush 9, 2) := by decide +kernel
theorem dX7_areUpTo_43 : decode cX7_areUpTo 43 = .ok (.laload, 1) := by decide +kernel
theorem dX7_areUpTo_44 : decode cX7_areUpTo 44 = .ok (.iload_n 1, 1) := by decide +kernel
theorem dX7_areUpTo_45 : decode cX7_areUpTo 45 = .ok (.i2l, 1) := by decide +kernel
theorem dX7_areUpTo_46 : decode cX7_areUpTo 46 = .ok (.lcmp, 1) := by decide +kernel
theorem dX7_areUpTo_47 : decode cX7_areUpTo 47 = .ok (.ifCond .gt 7, 3) := by decide +kernel
theorem dX7_areUpTo_50 : decode cX7_areUpTo 50 = .ok (.iconst 1, 1) := by decide +kernel
theorem dX7_areUpTo_51 : decode cX7_areUpTo 51 = .ok (.goto 4, 3) := by decide +kernel
theorem dX7_areUpTo_54 : decode cX7_areUpTo 54 = .ok (.iconst 0, 1) := by decide +kernel
theorem dX7_areUpTo_55 : decode cX7_areUpTo 55 = .ok (.ireturn, 1) := by decide +kernel
theorem dX7_gathers_0 : decode cX7_gathers 0 = .ok (.aload_n 0, 1) := by decide +kernel
theorem dX7_gathers_1 : decode cX7_gathers 1 = .ok (.iconst 0, 1) := by decide +kernel
theorem dX7_gathers_2 : decode cX7_gathers 2 = .ok (.putfield 144, 3) := by decide +kernel
theorem dX7_gathers_5 : decode cX7_gathers 5 = .ok (.aload_n 0, 1) := by decide +kernel
theorem dX7_gathers_6 : decode cX7_gathers 6 = .ok (.iconst 0, 1) := by decide +kernel
theorem dX7_gathers_7 : decode cX7_gathers 7 = .ok (.putfield 151, 3) := by decide +kernel
theorem dX7_gathers_10 : decode cX7_gathers 10 = .ok (.iconst 0, 1) := by decide +kernel
theorem dX7_gathers_11 : decode cX7_gathers 11 = .ok (.istore_n 2, 1) := by decide +kernel
theorem dX7_gathers_12 : decode cX7_gathers 12 = .ok (.iload_n 2, 1) := by decide +kernel
theorem dX7_gathers_13 : decode cX7_gathers 13 = .ok (.iconst 4, 1) := by decide +kernel
theorem dX7_gathers_14 : decode cX7_gathers 14 = .ok (.if_icmp .ge 33, 3) := by decide +kernel
theorem dX7_gathers_17 : decode cX7_gathers 17 = .ok (.aload_n 0, 1) := by decide +kernel
theorem dX7_gathers_18 : decode cX7_gathers 18 = .ok (.getfield 26, 3) := by decide +kernel
theorem dX7_gathers_21 : decode cX7_gathers 21 = .ok (.iconst 3, 1) := by decide +kernel
theorem dX7_gathers_22 : decode cX7_gathers 22 = .ok (.iload_n 2, 1) := by decide +kernel
theorem dX7_gathers_23 : decode cX7_gathers 23 = .ok (.imul, 1) := by decide +kernel
theorem dX7_gathers_24 : decode cX7_gathers 24 = .ok (.laload, 1) := by decide +kernel
theorem dX7_gathers_25 : decode cX7_gathers 25 = .ok (.iload_n 1, 1) := by decide +kernel
theorem dX7_gathers_26 : decode cX7_gathers 26 = .ok (.i2l, 1) := by decide +kernel
theorem dX7_gathers_27 : decode cX7_gathers 27 = .ok (.lcmp, 1) := by decide +kernel
theorem dX7_gathers_28 : decode cX7_gathers 28 = .ok (.ifCond .gt 13, 3) := by decide +kernel
theorem dX7_gathers_31 : decode cX7_gathers 31 = .ok (.aload_n 0, 1) := by decide +kernel
theorem dX7_gathers_32 : decode cX7_gathers 32 = .ok (.iload_n 2, 1) := by decide +kernel
theorem dX7_gathers_33 : decode cX7_gathers 33 = .ok (.invokevirtual 154, 3) := by decide +kernel
theorem dX7_gathers_36 : decode cX7_gathers 36 = .ok (.ifCond .ne 5, 3) := by decide +kernel
theorem dX7_gathers_39 : decode cX7_gathers 39 = .ok (.iconst 0, 1) := by decide +kernel
theorem dX7_gathers_40 : decode cX7_gathers 40 = .ok (.ireturn, 1) := by decide +kernel
theorem dX7_gathers_41 : decode cX7_gathers 41 = .ok (.iinc 2 1, 3) := by decide +kernel
theorem dX7_gathers_44 : decode cX7_gathers 44 = .ok (.goto (-32), 3) := by decide +kernel
theorem dX7_gathers_47 : decode cX7_gathers 47 = .ok (.aload_n 0, 1) := by decide +kernel
theorem dX7_gathers_48 : decode cX7_gathers 48 = .ok (.bipush (-3), 2) := by decide +kernel
theorem dX7_gathers_50 : decode cX7_gathers 50 = .ok (.invokevirtual 157, 3) := by decide +kernel
theorem dX7_gathers_53 : decode cX7_gathers 53 = .ok (.istore_n 2, 1) := by decide +kernel
theorem dX7_gathers_54 : decode cX7_gathers 54 = .ok (.aload_n 0, 1) := by decide +kernel
theorem dX7_gathers_55 : decode cX7_gathers 55 = .ok (.getfield 151, 3) := by decide +kernel
theorem dX7_gathers_58 : decode cX7_gathers 58 = .ok (.ifCond .le 87, 3) := by decide +kernel
theorem dX7_gathers_61 : decode cX7_gathers 61 = .ok (.aload_n 0, 1) := by decide +kernel
theorem dX7_gathers_62 : decode cX7_gathers 62 = .ok (.invokevirtual 160, 3) := by decide +kernel
theorem dX7_gathers_65 : decode cX7_gathers 65 = .ok (.istore_n 3, 1) := by decide +kernel
theorem dX7_gathers_66 : decode cX7_gathers 66 = .ok (.aload_n 0, 1) := by decide +kernel
theorem dX7_gathers_67 : decode cX7_gathers 67 = .ok (.iload_n 1, 1) := by decide +kernel
theorem dX7_gathers_68 : decode cX7_gathers 68 = .ok (.invokevirtual 163, 3) := by decide +kernel
theorem dX7_gathers_71 : decode cX7_gathers 71 = .ok (.ifCond .eq 71, 3) := by decide +kernel
theorem dX7_gathers_74 : decode cX7_gathers 74 = .ok (.iconst 0, 1) := by decide +kernel
theorem dX7_gathers_75 : decode cX7_gathers 75 = .ok (.istore 4, 2) := by decide +kernel
theorem dX7_gathers_77 : decode cX7_gathers 77 = .ok (.iload 4, 2) := by decide +kernel
theorem dX7_gathers_79 : decode cX7_gathers 79 = .ok (.iconst 4, 1) := by decide +kernel
theorem dX7_gathers_80 : decode cX7_gathers 80 = .ok (.if_icmp .ge 62, 3) := by decide +kernel
theorem dX7_gathers_83 : decode cX7_gathers 83 = .ok (.iload 4, 2) := by decide +kernel
theorem dX7_gathers_85 : decode cX7_gathers 85 = .ok (.iload_n 3, 1) := by decide +kernel
theorem dX7_gathers_86 : decode cX7_gathers 86 = .ok (.if_icmp .eq 50, 3) := by decide +kernel
theorem dX7_gathers_89 : decode cX7_gathers 89 = .ok (.aload_n 0, 1) := by decide +kernel
theorem dX7_gathers_90 : decode cX7_gathers 90 = .ok (.iload 4, 2) := by decide +kernel
theorem dX7_gathers_92 : decode cX7_gathers 92 = .ok (.invokevirtual 124, 3) := by decide +kernel
theorem dX7_gathers_95 : decode cX7_gathers 95 = .ok (.aload_n 0, 1) := by decide +kernel
theorem dX7_gathers_96 : decode cX7_gathers 96 = .ok (.getfield 26, 3) := by decide +kernel
theorem dX7_gathers_99 : decode cX7_gathers 99 = .ok (.iconst 3, 1) := by decide +kernel
theorem dX7_gathers_100 : decode cX7_gathers 100 = .ok (.iload 4, 2) := by decide +kernel
theorem dX7_gathers_102 : decode cX7_gathers 102 = .ok (.imul, 1) := by decide +kernel
theorem dX7_gathers_103 : decode cX7_gathers 103 = .ok (.laload, 1) := by decide +kernel
theorem dX7_gathers_104 : decode cX7_gathers 104 = .ok (.iload_n 1, 1) := by decide +kernel
theorem dX7_gathers_105 : decode cX7_gathers 105 = .ok (.i2l, 1) := by decide +kernel
theorem dX7_gathers_106 : decode cX7_gathers 106 = .ok (.lcmp, 1) := by decide +kernel
theorem dX7_gathers_107 : decode cX7_gathers 107 = .ok (.ifCond .gt 23, 3) := by decide +kernel
theorem dX7_gathers_110 : decode cX7_gathers 110 = .ok (.aload_n 0, 1) := by decide +kernel
theorem dX7_gathers_111 : decode cX7_gathers 111 = .ok (.iload 4, 2) := by decide +kernel
theorem dX7_gathers_113 : decode cX7_gathers 113 = .ok (.invokevirtual 154, 3) := by decide +kernel
theorem dX7_gathers_116 : decode cX7_gathers 116 = .ok (.ifCond .eq 12, 3) := by decide +kernel
theorem dX7_gathers_119 : decode cX7_gathers 119 = .ok (.aload_n 0, 1) := by decide +kernel
theorem dX7_gathers_120 : decode cX7_gathers 120 = .ok (.iload 4, 2) := by decide +kernel
theorem dX7_gathers_122 : decode cX7_gathers 122 = .ok (.invokevirtual 157, 3) := by decide +kernel
theorem dX7_gathers_125 : decode cX7_gathers 125 = .ok (.ifCond .ne 5, 3) := by decide +kernel
theorem dX7_gathers_128 : decode cX7_gathers 128 = .ok (.iconst 0, 1) := by decide +kernel
theorem dX7_gathers_129 : decode cX7_gathers 129 = .ok (.ireturn, 1) := by decide +kernel
theorem dX7_gathers_130 : decode cX7_gathers 130 = .ok (.aload_n 0, 1) := by decide +kernel
theorem dX7_gathers_131 : decode cX7_gathers 131 = .ok (.iload 4, 2) := by decide +kernel
theorem dX7_gathers_133 : decode cX7_gathers 133 = .ok (.invokevirtual 124, 3) := by decide +kernel
theorem dX7_gathers_136 : decode cX7_gathers 136 = .ok (.iinc 4 1, 3) := by decide +kernel
theorem dX7_gathers_139 : decode cX7_gathers 139 = .ok (.goto (-62), 3) := by decide +kernel
theorem dX7_gathers_142 : decode cX7_gathers 142 = .ok (.goto (-88), 3) := by decide +kernel
theorem dX7_gathers_145 : decode cX7_gathers 145 = .ok (.iload_n 2, 1) := by decide +kernel
theorem dX7_gathers_146 : decode cX7_gathers 146 = .ok (.ireturn, 1) := by decide +kernel
theorem dX7_list_0 : decode cX7_list 0 = .ok (.aload_n 0, 1) := by decide +kernel
theorem dX7_list_1 : decode cX7_list 1 = .ok (.iload_n 1, 1) := by decide +kernel
theorem dX7_list_2 : decode cX7_list 2 = .ok (.invokevirtual 115, 3) := by decide +kernel
theorem dX7_list_5 : decode cX7_list 5 = .ok (.ifCond .eq 15, 3) := by decide +kernel
theorem dX7_list_8 : decode cX7_list 8 = .ok (.iload_n 2, 1) := by decide +kernel
theorem dX7_list_9 : decode cX7_list 9 = .ok (.i2l, 1) := by decide +kernel
theorem dX7_list_10 : decode cX7_list 10 = .ok (.lconst 1, 1) := by decide +kernel
theorem dX7_list_11 : decode cX7_list 11 = .ok (.ldc2_w 166, 3) := by decide +kernel
theorem dX7_list_14 : decode cX7_list 14 = .ok (.invokestatic 63, 3) := by decide +kernel
theorem dX7_list_17 : decode cX7_list 17 = .ok (.ifCond .ne 5, 3) := by decide +kernel
theorem dX7_list_20 : decode cX7_list 20 = .ok (.iconst (-1), 1) := by decide +kernel
theorem dX7_list_21 : decode cX7_list 21 = .ok (.ireturn, 1) := by decide +kernel
theorem dX7_list_22 : decode cX7_list 22 = .ok (.aload_n 0, 1) := by decide +kernel
theorem dX7_list_23 : decode cX7_list 23 = .ok (.iload_n 1, 1) := by decide +kernel
theorem dX7_list_24 : decode cX7_list 24 = .ok (.invokevirtual 138, 3) := by decide +kernel
theorem dX7_list_27 : decode cX7_list 27 = .ok (.aload_n 0, 1) := by decide +kernel
theorem dX7_list_28 : decode cX7_list 28 = .ok (.iload_n 2, 1) := by decide +kernel
theorem dX7_list_29 : decode cX7_list 29 = .ok (.invokevirtual 168, 3) := by decide +kernel
theorem dX7_list_32 : decode cX7_list 32 = .ok (.ifCond .ne 6, 3) := by decide +kernel
theorem dX7_list_35 : decode cX7_list 35 = .ok (.bipush (-4), 2) := by decide +kernel
theorem dX7_list_37 : decode cX7_list 37 = .ok (.ireturn, 1) := by decide +kernel
theorem dX7_list_38 : decode cX7_list 38 = .ok (.iconst 0, 1) := by decide +kernel
theorem dX7_list_39 : decode cX7_list 39 = .ok (.istore_n 3, 1) := by decide +kernel
theorem dX7_list_40 : decode cX7_list 40 = .ok (.iload_n 3, 1) := by decide +kernel
theorem dX7_list_41 : decode cX7_list 41 = .ok (.iconst 3, 1) := by decide +kernel
theorem dX7_list_42 : decode cX7_list 42 = .ok (.aload_n 0, 1) := by decide +kernel
theorem dX7_list_43 : decode cX7_list 43 = .ok (.getfield 144, 3) := by decide +kernel
theorem dX7_list_46 : decode cX7_list 46 = .ok (.imul, 1) := by decide +kernel
theorem dX7_list_47 : decode cX7_list 47 = .ok (.if_icmp .ge 22, 3) := by decide +kernel
theorem dX7_list_50 : decode cX7_list 50 = .ok (.aload_n 0, 1) := by decide +kernel
theorem dX7_list_51 : decode cX7_list 51 = .ok (.getfield 36, 3) := by decide +kernel
theorem dX7_list_54 : decode cX7_list 54 = .ok (.iload_n 3, 1) := by decide +kernel
theorem dX7_list_55 : decode cX7_list 55 = .ok (.aload_n 0, 1) := by decide +kernel
theorem dX7_list_56 : decode cX7_list 56 = .ok (.getfield 51, 3) := by decide +kernel
theorem dX7_list_59 : decode cX7_list 59 = .ok (.iload_n 3, 1) := by decide +kernel
theorem dX7_list_60 : decode cX7_list 60 = .ok (.laload, 1) := by decide +kernel
theorem dX7_list_61 : decode cX7_list 61 = .ok (.l2i, 1) := by decide +kernel
theorem dX7_list_62 : decode cX7_list 62 = .ok (.iastore, 1) := by decide +kernel
theorem dX7_list_63 : decode cX7_list 63 = .ok (.iinc 3 1, 3) := by decide +kernel
theorem dX7_list_66 : decode cX7_list 66 = .ok (.goto (-26), 3) := by decide +kernel
theorem dX7_list_69 : decode cX7_list 69 = .ok (.aload_n 0, 1) := by decide +kernel
theorem dX7_list_70 : decode cX7_list 70 = .ok (.aload_n 0, 1) := by decide +kernel
theorem dX7_list_71 : decode cX7_list 71 = .ok (.getfield 144, 3) := by decide +kernel
theorem dX7_list_74 : decode cX7_list 74 = .ok (.putfield 171, 3) := by decide +kernel
theorem dX7_list_77 : decode cX7_list 77 = .ok (.aload_n 0, 1) := by decide +kernel
theorem dX7_list_78 : decode cX7_list 78 = .ok (.iload_n 2, 1) := by decide +kernel
theorem dX7_list_79 : decode cX7_list 79 = .ok (.putfield 174, 3) := by decide +kernel
theorem dX7_list_82 : decode cX7_list 82 = .ok (.aload_n 0, 1) := by decide +kernel
theorem dX7_list_83 : decode cX7_list 83 = .ok (.iload_n 1, 1) := by decide +kernel
theorem dX7_list_84 : decode cX7_list 84 = .ok (.putfield 32, 3) := by decide +kernel
theorem dX7_list_87 : decode cX7_list 87 = .ok (.aload_n 0, 1) := by decide +kernel
theorem dX7_list_88 : decode cX7_list 88 = .ok (.getfield 171, 3) := by decide +kernel
theorem dX7_list_91 : decode cX7_list 91 = .ok (.ireturn, 1) := by decide +kernel
theorem dX7_listed_0 : decode cX7_listed 0 = .ok (.iload_n 2, 1) := by decide +kernel
theorem dX7_listed_1 : decode cX7_listed 1 = .ok (.i2l, 1) := by decide +kernel
theorem dX7_listed_2 : decode cX7_listed 2 = .ok (.lconst 0, 1) := by decide +kernel
theorem dX7_listed_3 : decode cX7_listed 3 = .ok (.ldc2_w 73, 3) := by decide +kernel
theorem dX7_listed_6 : decode cX7_listed 6 = .ok (.invokestatic 63, 3) := by decide +kernel
theorem dX7_listed_9 : decode cX7_listed 9 = .ok (.ifCond .ne 6, 3) := by decide +kernel
theorem dX7_listed_12 : decode cX7_listed 12 = .ok (.ldc 131, 2) := by decide +kernel
theorem dX7_listed_14 : decode cX7_listed 14 = .ok (.ireturn, 1) := by decide +kernel
theorem dX7_listed_15 : decode cX7_listed 15 = .ok (.iload_n 1, 1) := by decide +kernel
theorem dX7_listed_16 : decode cX7_listed 16 = .ok (.i2l, 1) := by decide +kernel
theorem dX7_listed_17 : decode cX7_listed 17 = .ok (.lconst 0, 1) := by decide +kernel
theorem dX7_listed_18 : decode cX7_listed 18 = .ok (.aload_n 0, 1) := by decide +kernel
theorem dX7_listed_19 : decode cX7_listed 19 = .ok (.getfield 171, 3) := by decide +kernel
theorem dX7_listed_22 : decode cX7_listed 22 = .ok (.iconst 1, 1) := by decide +kernel
theorem dX7_listed_23 : decode cX7_listed 23 = .ok (.isub, 1) := by decide +kernel
theorem dX7_listed_24 : decode cX7_listed 24 = .ok (.i2l, 1) := by decide +kernel
theorem dX7_listed_25 : decode cX7_listed 25 = .ok (.invokestatic 63, 3) := by decide +kernel
theorem dX7_listed_28 : decode cX7_listed 28 = .ok (.ifCond .eq 16, 3) := by decide +kernel
theorem dX7_listed_31 : decode cX7_listed 31 = .ok (.aload_n 0, 1) := by decide +kernel
theorem dX7_listed_32 : decode cX7_listed 32 = .ok (.getfield 36, 3) := by decide +kernel
theorem dX7_listed_35 : decode cX7_listed 35 = .ok (.iconst 3, 1) := by decide +kernel
theorem dX7_listed_36 : decode cX7_listed 36 = .ok (.iload_n 1, 1) := by decide +kernel
theorem dX7_listed_37 : decode cX7_listed 37 = .ok (.imul, 1) := by decide +kernel
theorem dX7_listed_38 : decode cX7_listed 38 = .ok (.iload_n 2, 1) := by decide +kernel
theorem dX7_listed_39 : decode cX7_listed 39 = .ok (.iadd, 1) := by decide +kernel
theorem dX7_listed_40 : decode cX7_listed 40 = .ok (.iaload, 1) := by decide +kernel
theorem dX7_listed_41 : decode cX7_listed 41 = .ok (.goto 5, 3) := by decide +kernel
theorem dX7_listed_44 : decode cX7_listed 44 = .ok (.ldc 177, 2) := by decide +kernel
theorem dX7_listed_46 : decode cX7_listed 46 = .ok (.ireturn, 1) := by decide +kernel
theorem dX7_find_0 : decode cX7_find 0 = .ok (.iconst 0, 1) := by decide +kernel
theorem dX7_find_1 : decode cX7_find 1 = .ok (.istore_n 2, 1) := by decide +kernel
theorem dX7_find_2 : decode cX7_find 2 = .ok (.iconst 0, 1) := by decide +kernel
theorem dX7_find_3 : decode cX7_find 3 = .ok (.istore_n 3, 1) := by decide +kernel
theorem dX7_find_4 : decode cX7_find 4 = .ok (.iload_n 3, 1) := by decide +kernel
theorem dX7_find_5 : decode cX7_find 5 = .ok (.aload_n 0, 1) := by decide +kernel
theorem dX7_find_6 : decode cX7_find 6 = .ok (.getfield 171, 3) := by decide +kernel
theorem dX7_find_9 : decode cX7_find 9 = .ok (.if_icmp .ge 29, 3) := by decide +kernel
theorem dX7_find_12 : decode cX7_find 12 = .ok (.iload_n 2, 1) := by decide +kernel
theorem dX7_find_13 : decode cX7_find 13 = .ok (.aload_n 0, 1) := by decide +kernel
theorem dX7_find_14 : decode cX7_find 14 = .ok (.getfield 36, 3) := by decide +kernel
theorem dX7_find_17 : decode cX7_find 17 = .ok (.iconst 3, 1) := by decide +kernel
theorem dX7_find_18 : decode cX7_find 18 = .ok (.iload_n 3, 1) := by decide +kernel
theorem dX7_find_19 : decode cX7_find 19 = .ok (.imul, 1) := by decide +kernel
theorem dX7_find_20 : decode cX7_find 20 = .ok (.iaload, 1) := by decide +kernel
theorem dX7_find_21 : decode cX7_find 21 = .ok (.iload_n 1, 1) := by decide +kernel
theorem dX7_find_22 : decode cX7_find 22 = .ok (.if_icmp .ne 7, 3) := by decide +kernel
theorem dX7_find_25 : decode cX7_find 25 = .ok (.iconst 1, 1) := by decide +kernel
theorem dX7_find_26 : decode cX7_find 26 = .ok (.goto 4, 3) := by decide +kernel
theorem dX7_find_29 : decode cX7_find 29 = .ok (.iconst 0, 1) := by decide +kernel
theorem dX7_find_30 : decode cX7_find 30 = .ok (.iadd, 1) := by decide +kernel
theorem dX7_find_31 : decode cX7_find 31 = .ok (.istore_n 2, 1) := by decide +kernel
theorem dX7_find_32 : decode cX7_find 32 = .ok (.iinc 3 1, 3) := by decide +kernel
theorem dX7_find_35 : decode cX7_find 35 = .ok (.goto (-31), 3) := by decide +kernel
theorem dX7_find_38 : decode cX7_find 38 = .ok (.iload_n 2, 1) := by decide +kernel
theorem dX7_find_39 : decode cX7_find 39 = .ok (.ireturn, 1) := by decide +kernel
theorem dX7_left_0 : decode cX7_left 0 = .ok (.iload_n 1, 1) := by decide +kernel
theorem dX7_left_1 : decode cX7_left 1 = .ok (.ifCond .ge 5, 3) := by decide +kernel
theorem dX7_left_4 : decode cX7_left 4 = .ok (.iconst (-1), 1) := by decide +kernel
theorem dX7_left_5 : decode cX7_left 5 = .ok (.ireturn, 1) := by decide +kernel
theorem dX7_left_6 : decode cX7_left 6 = .ok (.aload_n 0, 1) := by decide +kernel
theorem dX7_left_7 : decode cX7_left 7 = .ok (.getfield 32, 3) := by decide +kernel
theorem dX7_left_10 : decode cX7_left 10 = .ok (.bipush (-3), 2) := by decide +kernel
theorem dX7_left_12 : decode cX7_left 12 = .ok (.if_icmp .ne 6, 3) := by decide +kernel
theorem dX7_left_15 : decode cX7_left 15 = .ok (.bipush (-3), 2) := by decide +kernel
theorem dX7_left_17 : decode cX7_left 17 = .ok (.ireturn, 1) := by decide +kernel
theorem dX7_left_18 : decode cX7_left 18 = .ok (.aload_n 0, 1) := by decide +kernel
theorem dX7_left_19 : decode cX7_left 19 = .ok (.aload_n 0, 1) := by decide +kernel
theorem dX7_left_20 : decode cX7_left 20 = .ok (.getfield 32, 3) := by decide +kernel
theorem dX7_left_23 : decode cX7_left 23 = .ok (.invokevirtual 178, 3) := by decide +kernel
theorem dX7_left_26 : decode cX7_left 26 = .ok (.istore_n 2, 1) := by decide +kernel
theorem dX7_left_27 : decode cX7_left 27 = .ok (.iload_n 1, 1) := by decide +kernel
theorem dX7_left_28 : decode cX7_left 28 = .ok (.istore_n 3, 1) := by decide +kernel
theorem dX7_left_29 : decode cX7_left 29 = .ok (.iconst 1, 1) := by decide +kernel
theorem dX7_left_30 : decode cX7_left 30 = .ok (.istore 4, 2) := by decide +kernel
theorem dX7_left_32 : decode cX7_left 32 = .ok (.iload 4, 2) := by decide +kernel
theorem dX7_left_34 : decode cX7_left 34 = .ok (.aload_n 0, 1) := by decide +kernel
theorem dX7_left_35 : decode cX7_left 35 = .ok (.getfield 174, 3) := by decide +kernel
theorem dX7_left_38 : decode cX7_left 38 = .ok (.if_icmp .gt 41, 3) := by decide +kernel
theorem dX7_left_41 : decode cX7_left 41 = .ok (.iload_n 2, 1) := by decide +kernel
theorem dX7_left_42 : decode cX7_left 42 = .ok (.iload 4, 2) := by decide +kernel
theorem dX7_left_44 : decode cX7_left 44 = .ok (.bipush 24, 2) := by decide +kernel
theorem dX7_left_46 : decode cX7_left 46 = .ok (.irem, 1) := by decide +kernel
theorem dX7_left_47 : decode cX7_left 47 = .ok (.ishr, 1) := by decide +kernel
theorem dX7_left_48 : decode cX7_left 48 = .ok (.iconst 1, 1) := by decide +kernel
theorem dX7_left_49 : decode cX7_left 49 = .ok (.iand, 1) := by decide +kernel
theorem dX7_left_50 : decode cX7_left 50 = .ok (.iconst 1, 1) := by decide +kernel
theorem dX7_left_51 : decode cX7_left 51 = .ok (.if_icmp .ne 22, 3) := by decide +kernel
theorem dX7_left_54 : decode cX7_left 54 = .ok (.aload_n 0, 1) := by decide +kernel
theorem dX7_left_55 : decode cX7_left 55 = .ok (.iload 4, 2) := by decide +kernel
theorem dX7_left_57 : decode cX7_left 57 = .ok (.invokevirtual 181, 3) := by decide +kernel
theorem dX7_left_60 : decode cX7_left 60 = .ok (.ifCond .ne 13, 3) := by decide +kernel
theorem dX7_left_63 : decode cX7_left 63 = .ok (.iload_n 3, 1) := by decide +kernel
theorem dX7_left_64 : decode cX7_left 64 = .ok (.ifCond .ne 6, 3) := by decide +kernel
theorem dX7_left_67 : decode cX7_left 67 = .ok (.iload 4, 2) := by decide +kernel
theorem dX7_left_69 : decode cX7_left 69 = .ok (.ireturn, 1) := by decide +kernel
theorem dX7_left_70 : decode cX7_left 70 = .ok (.iinc 3 (-1), 3) := by decide +kernel
theorem dX7_left_73 : decode cX7_left 73 = .ok (.iinc 4 1, 3) := by decide +kernel
theorem dX7_left_76 : decode cX7_left 76 = .ok (.goto (-44), 3) := by decide +kernel
theorem dX7_left_79 : decode cX7_left 79 = .ok (.bipush (-3), 2) := by decide +kernel
theorem dX7_left_81 : decode cX7_left 81 = .ok (.ireturn, 1) := by decide +kernel
theorem dX7_restOf_0 : decode cX7_restOf 0 = .ok (.iload_n 0, 1) := by decide +kernel
theorem dX7_restOf_1 : decode cX7_restOf 1 = .ok (.bipush 24, 2) := by decide +kernel
theorem dX7_restOf_3 : decode cX7_restOf 3 = .ok (.irem, 1) := by decide +kernel
theorem dX7_restOf_4 : decode cX7_restOf 4 = .ok (.istore_n 1, 1) := by decide +kernel
theorem dX7_restOf_5 : decode cX7_restOf 5 = .ok (.iload_n 1, 1) := by decide +kernel
theorem dX7_restOf_6 : decode cX7_restOf 6 = .ok (.ifCond .ge 10, 3) := by decide +kernel
theorem dX7_restOf_9 : decode cX7_restOf 9 = .ok (.iload_n 1, 1) := by decide +kernel
theorem dX7_restOf_10 : decode cX7_restOf 10 = .ok (.bipush 24, 2) := by decide +kernel
theorem dX7_restOf_12 : decode cX7_restOf 12 = .ok (.iadd, 1) := by decide +kernel
theorem dX7_restOf_13 : decode cX7_restOf 13 = .ok (.goto 4, 3) := by decide +kernel
theorem dX7_restOf_16 : decode cX7_restOf 16 = .ok (.iload_n 1, 1) := by decide +kernel
theorem dX7_restOf_17 : decode cX7_restOf 17 = .ok (.ireturn, 1) := by decide +kernel
theorem dX7_see_0 : decode cX7_see 0 = .ok (.aload_n 0, 1) := by decide +kernel
theorem dX7_see_1 : decode cX7_see 1 = .ok (.getfield 54, 3) := by decide +kernel
theorem dX7_see_4 : decode cX7_see 4 = .ok (.iload_n 1, 1) := by decide +kernel
theorem dX7_see_5 : decode cX7_see 5 = .ok (.iconst 5, 1) := by decide +kernel
theorem dX7_see_6 : decode cX7_see 6 = .ok (.ishr, 1) := by decide +kernel
theorem dX7_see_7 : decode cX7_see 7 = .ok (.iaload, 1) := by decide +kernel
theorem dX7_see_8 : decode cX7_see 8 = .ok (.iload_n 1, 1) := by decide +kernel
theorem dX7_see_9 : decode cX7_see 9 = .ok (.bipush 31, 2) := by decide +kernel
theorem dX7_see_11 : decode cX7_see 11 = .ok (.iand, 1) := by decide +kernel
theorem dX7_see_12 : decode cX7_see 12 = .ok (.ishr, 1) := by decide +kernel
theorem dX7_see_13 : decode cX7_see 13 = .ok (.iconst 1, 1) := by decide +kernel
theorem dX7_see_14 : decode cX7_see 14 = .ok (.iand, 1) := by decide +kernel
theorem dX7_see_15 : decode cX7_see 15 = .ok (.iconst 1, 1) := by decide +kernel
theorem dX7_see_16 : decode cX7_see 16 = .ok (.if_icmp .ne 7, 3) := by decide +kernel
theorem dX7_see_19 : decode cX7_see 19 = .ok (.iconst 1, 1) := by decide +kernel
theorem dX7_see_20 : decode cX7_see 20 = .ok (.goto 4, 3) := by decide +kernel
theorem dX7_see_23 : decode cX7_see 23 = .ok (.iconst 0, 1) := by decide +kernel
theorem dX7_see_24 : decode cX7_see 24 = .ok (.istore_n 2, 1) := by decide +kernel
theorem dX7_see_25 : decode cX7_see 25 = .ok (.aload_n 0, 1) := by decide +kernel
theorem dX7_see_26 : decode cX7_see 26 = .ok (.getfield 54, 3) := by decide +kernel
theorem dX7_see_29 : decode cX7_see 29 = .ok (.iload_n 1, 1) := by decide +kernel
theorem dX7_see_30 : decode cX7_see 30 = .ok (.iconst 5, 1) := by decide +kernel
theorem dX7_see_31 : decode cX7_see 31 = .ok (.ishr, 1) := by decide +kernel
theorem dX7_see_32 : decode cX7_see 32 = .ok (.dup2, 1) := by decide +kernel
theorem dX7_see_33 : decode cX7_see 33 = .ok (.iaload, 1) := by decide +kernel
theorem dX7_see_34 : decode cX7_see 34 = .ok (.iconst 1, 1) := by decide +kernel
theorem dX7_see_35 : decode cX7_see 35 = .ok (.iload_n 1, 1) := by decide +kernel
theorem dX7_see_36 : decode cX7_see 36 = .ok (.bipush 31, 2) := by decide +kernel
theorem dX7_see_38 : decode cX7_see 38 = .ok (.iand, 1) := by decide +kernel
theorem dX7_see_39 : decode cX7_see 39 = .ok (.ishl, 1) := by decide +kernel
theorem dX7_see_40 : decode cX7_see 40 = .ok (.ior, 1) := by decide +kernel
theorem dX7_see_41 : decode cX7_see 41 = .ok (.iastore, 1) := by decide +kernel
theorem dX7_see_42 : decode cX7_see 42 = .ok (.iload_n 2, 1) := by decide +kernel
theorem dX7_see_43 : decode cX7_see 43 = .ok (.ifCond .ne 7, 3) := by decide +kernel
theorem dX7_see_46 : decode cX7_see 46 = .ok (.iconst 1, 1) := by decide +kernel
theorem dX7_see_47 : decode cX7_see 47 = .ok (.goto 4, 3) := by decide +kernel
theorem dX7_see_50 : decode cX7_see 50 = .ok (.iconst 0, 1) := by decide +kernel
theorem dX7_see_51 : decode cX7_see 51 = .ok (.ireturn, 1) := by decide +kernel
theorem dX7_seen_0 : decode cX7_seen 0 = .ok (.aload_n 0, 1) := by decide +kernel
theorem dX7_seen_1 : decode cX7_seen 1 = .ok (.iload_n 1, 1) := by decide +kernel
theorem dX7_seen_2 : decode cX7_seen 2 = .ok (.invokevirtual 115, 3) := by decide +kernel
theorem dX7_seen_5 : decode cX7_seen 5 = .ok (.ifCond .ne 5, 3) := by decide +kernel
theorem dX7_seen_8 : decode cX7_seen 8 = .ok (.iconst (-1), 1) := by decide +kernel
theorem dX7_seen_9 : decode cX7_seen 9 = .ok (.ireturn, 1) := by decide +kernel
theorem dX7_seen_10 : decode cX7_seen 10 = .ok (.iconst 0, 1) := by decide +kernel
theorem dX7_seen_11 : decode cX7_seen 11 = .ok (.istore_n 2, 1) := by decide +kernel
theorem dX7_seen_12 : decode cX7_seen 12 = .ok (.iload_n 2, 1) := by decide +kernel
theorem dX7_seen_13 : decode cX7_seen 13 = .ok (.sipush 10368, 3) := by decide +kernel
theorem dX7_seen_16 : decode cX7_seen 16 = .ok (.if_icmp .ge 16, 3) := by decide +kernel
theorem dX7_seen_19 : decode cX7_seen 19 = .ok (.aload_n 0, 1) := by decide +kernel
theorem dX7_seen_20 : decode cX7_seen 20 = .ok (.getfield 54, 3) := by decide +kernel
theorem dX7_seen_23 : decode cX7_seen 23 = .ok (.iload_n 2, 1) := by decide +kernel
theorem dX7_seen_24 : decode cX7_seen 24 = .ok (.iconst 0, 1) := by decide +kernel
theorem dX7_seen_25 : decode cX7_seen 25 = .ok (.iastore, 1) := by decide +kernel
theorem dX7_seen_26 : decode cX7_seen 26 = .ok (.iinc 2 1, 3) := by decide +kernel
theorem dX7_seen_29 : decode cX7_seen 29 = .ok (.goto (-17), 3) := by decide +kernel
theorem dX7_seen_32 : decode cX7_seen 32 = .ok (.iconst 0, 1) := by decide +kernel
theorem dX7_seen_33 : decode cX7_seen 33 = .ok (.istore_n 2, 1) := by decide +kernel
theorem dX7_seen_34 : decode cX7_seen 34 = .ok (.iconst 0, 1) := by decide +kernel
theorem dX7_seen_35 : decode cX7_seen 35 = .ok (.istore_n 3, 1) := by decide +kernel
theorem dX7_seen_36 : decode cX7_seen 36 = .ok (.iload_n 3, 1) := by decide +kernel
theorem dX7_seen_37 : decode cX7_seen 37 = .ok (.iconst 4, 1) := by decide +kernel
theorem dX7_seen_38 : decode cX7_seen 38 = .ok (.if_icmp .ge 31, 3) := by decide +kernel
theorem dX7_seen_41 : decode cX7_seen 41 = .ok (.bipush 24, 2) := by decide +kernel
theorem dX7_seen_43 : decode cX7_seen 43 = .ok (.iload_n 2, 1) := by decide +kernel
theorem dX7_seen_44 : decode cX7_seen 44 = .ok (.imul, 1) := by decide +kernel
theorem dX7_seen_45 : decode cX7_seen 45 = .ok (.aload_n 0, 1) := by decide +kernel
theorem dX7_seen_46 : decode cX7_seen 46 = .ok (.getfield 23, 3) := by decide +kernel
theorem dX7_seen_49 : decode cX7_seen 49 = .ok (.bipush 12, 2) := by decide +kernel
theorem dX7_seen_51 : decode cX7_seen 51 = .ok (.iload_n 1, 1) := by decide +kernel
theorem dX7_seen_52 : decode cX7_seen 52 = .ok (.imul, 1) := by decide +kernel
theorem dX7_seen_53 : decode cX7_seen 53 = .ok (.iconst 3, 1) := by decide +kernel
theorem dX7_seen_54 : decode cX7_seen 54 = .ok (.iload_n 3, 1) := by decide +kernel
theorem dX7_seen_55 : decode cX7_seen 55 = .ok (.imul, 1) := by decide +kernel
theorem dX7_seen_56 : decode cX7_seen 56 = .ok (.iadd, 1) := by decide +kernel
theorem dX7_seen_57 : decode cX7_seen 57 = .ok (.iaload, 1) := by decide +kernel
theorem dX7_seen_58 : decode cX7_seen 58 = .ok (.invokestatic 184, 3) := by decide +kernel
theorem dX7_seen_61 : decode cX7_seen 61 = .ok (.iadd, 1) := by decide +kernel
theorem dX7_seen_62 : decode cX7_seen 62 = .ok (.istore_n 2, 1) := by decide +kernel
theorem dX7_seen_63 : decode cX7_seen 63 = .ok (.iinc 3 1, 3) := by decide +kernel
theorem dX7_seen_66 : decode cX7_seen 66 = .ok (.goto (-30), 3) := by decide +kernel
theorem dX7_seen_69 : decode cX7_seen 69 = .ok (.iconst 1, 1) := by decide +kernel
theorem dX7_seen_70 : decode cX7_seen 70 = .ok (.istore_n 3, 1) := by decide +kernel
theorem dX7_seen_71 : decode cX7_seen 71 = .ok (.aload_n 0, 1) := by decide +kernel
theorem dX7_seen_72 : decode cX7_seen 72 = .ok (.getfield 58, 3) := by decide +kernel
theorem dX7_seen_75 : decode cX7_seen 75 = .ok (.iconst 0, 1) := by decide +kernel
theorem dX7_seen_76 : decode cX7_seen 76 = .ok (.iload_n 2, 1) := by decide +kernel
theorem dX7_seen_77 : decode cX7_seen 77 = .ok (.iastore, 1) := by decide +kernel
theorem dX7_seen_78 : decode cX7_seen 78 = .ok (.aload_n 0, 1) := by decide +kernel
theorem dX7_seen_79 : decode cX7_seen 79 = .ok (.iload_n 2, 1) := by decide +kernel
theorem dX7_seen_80 : decode cX7_seen 80 = .ok (.invokevirtual 187, 3) := by decide +kernel
theorem dX7_seen_83 : decode cX7_seen 83 = .ok (.istore 4, 2) := by decide +kernel
theorem dX7_seen_85 : decode cX7_seen 85 = .ok (.iconst 0, 1) := by decide +kernel
theorem dX7_seen_86 : decode cX7_seen 86 = .ok (.istore 5, 2) := by decide +kernel
theorem dX7_seen_88 : decode cX7_seen 88 = .ok (.iload_n 3, 1) := by decide +kernel
theorem dX7_seen_89 : decode cX7_seen 89 = .ok (.ifCond .le 222, 3) := by decide +kernel
theorem dX7_seen_92 : decode cX7_seen 92 = .ok (.iinc 3 (-1), 3) := by decide +kernel
theorem dX7_seen_95 : decode cX7_seen 95 = .ok (.aload_n 0, 1) := by decide +kernel
theorem dX7_seen_96 : decode cX7_seen 96 = .ok (.getfield 58, 3) := by decide +kernel
theorem dX7_seen_99 : decode cX7_seen 99 = .ok (.iload_n 3, 1) := by decide +kernel
theorem dX7_seen_100 : decode cX7_seen 100 = .ok (.iaload, 1) := by decide +kernel
theorem dX7_seen_101 : decode cX7_seen 101 = .ok (.istore 6, 2) := by decide +kernel
theorem dX7_seen_103 : decode cX7_seen 103 = .ok (.iload 6, 2) := by decide +kernel
theorem dX7_seen_105 : decode cX7_seen 105 = .ok (.sipush 13824, 3) := by decide +kernel
theorem dX7_seen_108 : decode cX7_seen 108 = .ok (.idiv, 1) := by decide +kernel
theorem dX7_seen_109 : decode cX7_seen 109 = .ok (.istore 7, 2) := by decide +kernel
theorem dX7_seen_111 : decode cX7_seen 111 = .ok (.iload 6, 2) := by decide +kernel
theorem dX7_seen_113 : decode cX7_seen 113 = .ok (.sipush 576, 3) := by decide +kernel
theorem dX7_seen_116 : decode cX7_seen 116 = .ok (.idiv, 1) := by decide +kernel
theorem dX7_seen_117 : decode cX7_seen 117 = .ok (.bipush 24, 2) := by decide +kernel
theorem dX7_seen_119 : decode cX7_seen 119 = .ok (.irem, 1) := by decide +kernel
theorem dX7_seen_120 : decode cX7_seen 120 = .ok (.istore 8, 2) := by decide +kernel
theorem dX7_seen_122 : decode cX7_seen 122 = .ok (.iload 6, 2) := by decide +kernel
theorem dX7_seen_124 : decode cX7_seen 124 = .ok (.bipush 24, 2) := by decide +kernel
theorem dX7_seen_126 : decode cX7_seen 126 = .ok (.idiv, 1) := by decide +kernel
theorem dX7_seen_127 : decode cX7_seen 127 = .ok (.bipush 24, 2) := by decide +kernel
theorem dX7_seen_129 : decode cX7_seen 129 = .ok (.irem, 1) := by decide +kernel
theorem dX7_seen_130 : decode cX7_seen 130 = .ok (.istore 9, 2) := by decide +kernel
theorem dX7_seen_132 : decode cX7_seen 132 = .ok (.iload 6, 2) := by decide +kernel
theorem dX7_seen_134 : decode cX7_seen 134 = .ok (.bipush 24, 2) := by decide +kernel
theorem dX7_seen_136 : decode cX7_seen 136 = .ok (.irem, 1) := by decide +kernel
theorem dX7_seen_137 : decode cX7_seen 137 = .ok (.istore 10, 2) := by decide +kernel
theorem dX7_seen_139 : decode cX7_seen 139 = .ok (.iload 5, 2) := by decide +kernel
theorem dX7_seen_141 : decode cX7_seen 141 = .ok (.iconst 1, 1) := by decide +kernel
theorem dX7_seen_142 : decode cX7_seen 142 = .ok (.iload 7, 2) := by decide +kernel
theorem dX7_seen_144 : decode cX7_seen 144 = .ok (.ishl, 1) := by decide +kernel
theorem dX7_seen_145 : decode cX7_seen 145 = .ok (.iconst 1, 1) := by decide +kernel
theorem dX7_seen_146 : decode cX7_seen 146 = .ok (.iload 8, 2) := by decide +kernel
theorem dX7_seen_148 : decode cX7_seen 148 = .ok (.ishl, 1) := by decide +kernel
theorem dX7_seen_149 : decode cX7_seen 149 = .ok (.ior, 1) := by decide +kernel
theorem dX7_seen_150 : decode cX7_seen 150 = .ok (.iconst 1, 1) := by decide +kernel
theorem dX7_seen_151 : decode cX7_seen 151 = .ok (.iload 9, 2) := by decide +kernel
theorem dX7_seen_153 : decode cX7_seen 153 = .ok (.ishl, 1) := by decide +kernel
theorem dX7_seen_154 : decode cX7_seen 154 = .ok (.ior, 1) := by decide +kernel
theorem dX7_seen_155 : decode cX7_seen 155 = .ok (.iconst 1, 1) := by decide +kernel
theorem dX7_seen_156 : decode cX7_seen 156 = .ok (.iload 10, 2) := by decide +kernel
theorem dX7_seen_158 : decode cX7_seen 158 = .ok (.ishl, 1) := by decide +kernel
theorem dX7_seen_159 : decode cX7_seen 159 = .ok (.ior, 1) := by decide +kernel
theorem dX7_seen_160 : decode cX7_seen 160 = .ok (.ior, 1) := by decide +kernel
theorem dX7_seen_161 : decode cX7_seen 161 = .ok (.istore 5, 2) := by decide +kernel
theorem dX7_seen_163 : decode cX7_seen 163 = .ok (.iconst 0, 1) := by decide +kernel
theorem dX7_seen_164 : decode cX7_seen 164 = .ok (.istore 11, 2) := by decide +kernel
theorem dX7_seen_166 : decode cX7_seen 166 = .ok (.iload 11, 2) := by decide +kernel
theorem dX7_seen_168 : decode cX7_seen 168 = .ok (.iconst 4, 1) := by decide +kernel
theorem dX7_seen_169 : decode cX7_seen 169 = .ok (.if_icmp .ge 139, 3) := by decide +kernel
theorem dX7_seen_172 : decode cX7_seen 172 = .ok (.iload 11, 2) := by decide +kernel
theorem dX7_seen_174 : decode cX7_seen 174 = .ok (.ifCond .ne 9, 3) := by decide +kernel
theorem dX7_seen_177 : decode cX7_seen 177 = .ok (.sipush 13824, 3) := by decide +kernel
theorem dX7_seen_180 : decode cX7_seen 180 = .ok (.goto 27, 3) := by decide +kernel
theorem dX7_seen_183 : decode cX7_seen 183 = .ok (.iload 11, 2) := by decide +kernel
theorem dX7_seen_185 : decode cX7_seen 185 = .ok (.iconst 1, 1) := by decide +kernel
theorem dX7_seen_186 : decode cX7_seen 186 = .ok (.if_icmp .ne 9, 3) := by decide +kernel
theorem dX7_seen_189 : decode cX7_seen 189 = .ok (.sipush 576, 3) := by decide +kernel
theorem dX7_seen_192 : decode cX7_seen 192 = .ok (.goto 15, 3) := by decide +kernel
theorem dX7_seen_195 : decode cX7_seen 195 = .ok (.iload 11, 2) := by decide +kernel
theorem dX7_seen_197 : decode cX7_seen 197 = .ok (.iconst 2, 1) := by decide +kernel
theorem dX7_seen_198 : decode cX7_seen 198 = .ok (.if_icmp .ne 8, 3) := by decide +kernel
theorem dX7_seen_201 : decode cX7_seen 201 = .ok (.bipush 24, 2) := by decide +kernel
theorem dX7_seen_203 : decode cX7_seen 203 = .ok (.goto 4, 3) := by decide +kernel
theorem dX7_seen_206 : decode cX7_seen 206 = .ok (.iconst 1, 1) := by decide +kernel
theorem dX7_seen_207 : decode cX7_seen 207 = .ok (.istore 12, 2) := by decide +kernel
theorem dX7_seen_209 : decode cX7_seen 209 = .ok (.iload 11, 2) := by decide +kernel
theorem dX7_seen_211 : decode cX7_seen 211 = .ok (.ifCond .ne 8, 3) := by decide +kernel
theorem dX7_seen_214 : decode cX7_seen 214 = .ok (.iload 7, 2) := by decide +kernel
theorem dX7_seen_216 : decode cX7_seen 216 = .ok (.goto 27, 3) := by decide +kernel
theorem dX7_seen_219 : decode cX7_seen 219 = .ok (.iload 11, 2) := by decide +kernel
theorem dX7_seen_221 : decode cX7_seen 221 = .ok (.iconst 1, 1) := by decide +kernel
theorem dX7_seen_222 : decode cX7_seen 222 = .ok (.if_icmp .ne 8, 3) := by decide +kernel
theorem dX7_seen_225 : decode cX7_seen 225 = .ok (.iload 8, 2) := by decide +kernel
theorem dX7_seen_227 : decode cX7_seen 227 = .ok (.goto 16, 3) := by decide +kernel
theorem dX7_seen_230 : decode cX7_seen 230 = .ok (.iload 11, 2) := by decide +kernel
theorem dX7_seen_232 : decode cX7_seen 232 = .ok (.iconst 2, 1) := by decide +kernel
theorem dX7_seen_233 : decode cX7_seen 233 = .ok (.if_icmp .ne 8, 3) := by decide +kernel
theorem dX7_seen_236 : decode cX7_seen 236 = .ok (.iload 9, 2) := by decide +kernel
theorem dX7_seen_238 : decode cX7_seen 238 = .ok (.goto 5, 3) := by decide +kernel
theorem dX7_seen_241 : decode cX7_seen 241 = .ok (.iload 10, 2) := by decide +kernel
theorem dX7_seen_243 : decode cX7_seen 243 = .ok (.istore 13, 2) := by decide +kernel
theorem dX7_seen_245 : decode cX7_seen 245 = .ok (.iconst 2, 1) := by decide +kernel
theorem dX7_seen_246 : decode cX7_seen 246 = .ok (.iload 7, 2) := by decide +kernel
theorem dX7_seen_248 : decode cX7_seen 248 = .ok (.iload 8, 2) := by decide +kernel
theorem dX7_seen_250 : decode cX7_seen 250 = .ok (.iadd, 1) := by decide +kernel
theorem dX7_seen_251 : decode cX7_seen 251 = .ok (.iload 9, 2) := by decide +kernel
theorem dX7_seen_253 : decode cX7_seen 253 = .ok (.iadd, 1) := by decide +kernel
theorem dX7_seen_254 : decode cX7_seen 254 = .ok (.iload 10, 2) := by decide +kernel
theorem dX7_seen_256 : decode cX7_seen 256 = .ok (.iadd, 1) := by decide +kernel
theorem dX7_seen_257 : decode cX7_seen 257 = .ok (.iload 13, 2) := by decide +kernel
theorem dX7_seen_259 : decode cX7_seen 259 = .ok (.isub, 1) := by decide +kernel
theorem dX7_seen_260 : decode cX7_seen 260 = .ok (.imul, 1) := by decide +kernel
theorem dX7_seen_261 : decode cX7_seen 261 = .ok (.iload 13, 2) := by decide +kernel
theorem dX7_seen_263 : decode cX7_seen 263 = .ok (.isub, 1) := by decide +kernel
theorem dX7_seen_264 : decode cX7_seen 264 = .ok (.invokestatic 184, 3) := by decide +kernel
theorem dX7_seen_267 : decode cX7_seen 267 = .ok (.istore 14, 2) := by decide +kernel
theorem dX7_seen_269 : decode cX7_seen 269 = .ok (.iload 6, 2) := by decide +kernel
theorem dX7_seen_271 : decode cX7_seen 271 = .ok (.iload 12, 2) := by decide +kernel
theorem dX7_seen_273 : decode cX7_seen 273 = .ok (.iload 14, 2) := by decide +kernel
theorem dX7_seen_275 : decode cX7_seen 275 = .ok (.iload 13, 2) := by decide +kernel
theorem dX7_seen_277 : decode cX7_seen 277 = .ok (.isub, 1) := by decide +kernel
theorem dX7_seen_278 : decode cX7_seen 278 = .ok (.imul, 1) := by decide +kernel
theorem dX7_seen_279 : decode cX7_seen 279 = .ok (.iadd, 1) := by decide +kernel
theorem dX7_seen_280 : decode cX7_seen 280 = .ok (.istore 15, 2) := by decide +kernel
theorem dX7_seen_282 : decode cX7_seen 282 = .ok (.aload_n 0, 1) := by decide +kernel
theorem dX7_seen_283 : decode cX7_seen 283 = .ok (.iload 15, 2) := by decide +kernel
theorem dX7_seen_285 : decode cX7_seen 285 = .ok (.invokevirtual 187, 3) := by decide +kernel
theorem dX7_seen_288 : decode cX7_seen 288 = .ok (.ifCond .eq 14, 3) := by decide +kernel
theorem dX7_seen_291 : decode cX7_seen 291 = .ok (.aload_n 0, 1) := by decide +kernel
theorem dX7_seen_292 : decode cX7_seen 292 = .ok (.getfield 58, 3) := by decide +kernel
theorem dX7_seen_295 : decode cX7_seen 295 = .ok (.iload_n 3, 1) := by decide +kernel
theorem dX7_seen_296 : decode cX7_seen 296 = .ok (.iload 15, 2) := by decide +kernel
theorem dX7_seen_298 : decode cX7_seen 298 = .ok (.iastore, 1) := by decide +kernel
theorem dX7_seen_299 : decode cX7_seen 299 = .ok (.iinc 3 1, 3) := by decide +kernel
theorem dX7_seen_302 : decode cX7_seen 302 = .ok (.iinc 11 1, 3) := by decide +kernel
theorem dX7_seen_305 : decode cX7_seen 305 = .ok (.goto (-139), 3) := by decide +kernel
theorem dX7_seen_308 : decode cX7_seen 308 = .ok (.goto (-220), 3) := by decide +kernel
theorem dX7_seen_311 : decode cX7_seen 311 = .ok (.iload 5, 2) := by decide +kernel
theorem dX7_seen_313 : decode cX7_seen 313 = .ok (.ireturn, 1) := by decide +kernel
theorem dX7_chain_0 : decode cX7_chain 0 = .ok (.aload_n 0, 1) := by decide +kernel
theorem dX7_chain_1 : decode cX7_chain 1 = .ok (.iload_n 1, 1) := by decide +kernel
theorem dX7_chain_2 : decode cX7_chain 2 = .ok (.invokevirtual 115, 3) := by decide +kernel
theorem dX7_chain_5 : decode cX7_chain 5 = .ok (.ifCond .eq 44, 3) := by decide +kernel
theorem dX7_chain_8 : decode cX7_chain 8 = .ok (.iload_n 2, 1) := by decide +kernel
theorem dX7_chain_9 : decode cX7_chain 9 = .ok (.i2l, 1) := by decide +kernel
theorem dX7_chain_10 : decode cX7_chain 10 = .ok (.lconst 0, 1) := by decide +kernel
theorem dX7_chain_11 : decode cX7_chain 11 = .ok (.ldc2_w 118, 3) := by decide +kernel
theorem dX7_chain_14 : decode cX7_chain 14 = .ok (.invokestatic 63, 3) := by decide +kernel
theorem dX7_chain_17 : decode cX7_chain 17 = .ok (.ifCond .eq 32, 3) := by decide +kernel
theorem dX7_chain_20 : decode cX7_chain 20 = .ok (.iload_n 3, 1) := by decide +kernel
theorem dX7_chain_21 : decode cX7_chain 21 = .ok (.iload 5, 2) := by decide +kernel
theorem dX7_chain_23 : decode cX7_chain 23 = .ok (.invokestatic 127, 3) := by decide +kernel
theorem dX7_chain_26 : decode cX7_chain 26 = .ok (.ifCond .eq 23, 3) := by decide +kernel
theorem dX7_chain_29 : decode cX7_chain 29 = .ok (.iload_n 2, 1) := by decide +kernel
theorem dX7_chain_30 : decode cX7_chain 30 = .ok (.iload_n 3, 1) := by decide +kernel
theorem dX7_chain_31 : decode cX7_chain 31 = .ok (.if_icmp .eq 18, 3) := by decide +kernel
theorem dX7_chain_34 : decode cX7_chain 34 = .ok (.iload 4, 2) := by decide +kernel
theorem dX7_chain_36 : decode cX7_chain 36 = .ok (.i2l, 1) := by decide +kernel
theorem dX7_chain_37 : decode cX7_chain 37 = .ok (.ldc2_w 190, 3) := by decide +kernel
theorem dX7_chain_40 : decode cX7_chain 40 = .ok (.ldc2_w 192, 3) := by decide +kernel
theorem dX7_chain_43 : decode cX7_chain 43 = .ok (.invokestatic 63, 3) := by decide +kernel
theorem dX7_chain_46 : decode cX7_chain 46 = .ok (.ifCond .ne 6, 3) := by decide +kernel
theorem dX7_chain_49 : decode cX7_chain 49 = .ok (.ldc 131, 2) := by decide +kernel
theorem dX7_chain_51 : decode cX7_chain 51 = .ok (.ireturn, 1) := by decide +kernel
theorem dX7_chain_52 : decode cX7_chain 52 = .ok (.iconst 0, 1) := by decide +kernel
theorem dX7_chain_53 : decode cX7_chain 53 = .ok (.istore 6, 2) := by decide +kernel
theorem dX7_chain_55 : decode cX7_chain 55 = .ok (.iload 6, 2) := by decide +kernel
theorem dX7_chain_57 : decode cX7_chain 57 = .ok (.iload_n 2, 1) := by decide +kernel
theorem dX7_chain_58 : decode cX7_chain 58 = .ok (.if_icmp .eq 9, 3) := by decide +kernel
theorem dX7_chain_61 : decode cX7_chain 61 = .ok (.iload 6, 2) := by decide +kernel
theorem dX7_chain_63 : decode cX7_chain 63 = .ok (.iload_n 3, 1) := by decide +kernel
theorem dX7_chain_64 : decode cX7_chain 64 = .ok (.if_icmp .ne 9, 3) := by decide +kernel
theorem dX7_chain_67 : decode cX7_chain 67 = .ok (.iinc 6 1, 3) := by decide +kernel
theorem dX7_chain_70 : decode cX7_chain 70 = .ok (.goto (-15), 3) := by decide +kernel
theorem dX7_chain_73 : decode cX7_chain 73 = .ok (.bipush 6, 2) := by decide +kernel
theorem dX7_chain_75 : decode cX7_chain 75 = .ok (.iload_n 2, 1) := by decide +kernel
theorem dX7_chain_76 : decode cX7_chain 76 = .ok (.isub, 1) := by decide +kernel
theorem dX7_chain_77 : decode cX7_chain 77 = .ok (.iload_n 3, 1) := by decide +kernel
theorem dX7_chain_78 : decode cX7_chain 78 = .ok (.isub, 1) := by decide +kernel
theorem dX7_chain_79 : decode cX7_chain 79 = .ok (.iload 6, 2) := by decide +kernel
theorem dX7_chain_81 : decode cX7_chain 81 = .ok (.isub, 1) := by decide +kernel
theorem dX7_chain_82 : decode cX7_chain 82 = .ok (.istore 7, 2) := by decide +kernel
theorem dX7_chain_84 : decode cX7_chain 84 = .ok (.aload_n 0, 1) := by decide +kernel
theorem dX7_chain_85 : decode cX7_chain 85 = .ok (.iload_n 1, 1) := by decide +kernel
theorem dX7_chain_86 : decode cX7_chain 86 = .ok (.invokevirtual 120, 3) := by decide +kernel
theorem dX7_chain_89 : decode cX7_chain 89 = .ok (.iload 4, 2) := by decide +kernel
theorem dX7_chain_91 : decode cX7_chain 91 = .ok (.ifCond .le 8, 3) := by decide +kernel
theorem dX7_chain_94 : decode cX7_chain 94 = .ok (.iload 7, 2) := by decide +kernel
theorem dX7_chain_96 : decode cX7_chain 96 = .ok (.goto 5, 3) := by decide +kernel
theorem dX7_chain_99 : decode cX7_chain 99 = .ok (.iload 6, 2) := by decide +kernel
theorem dX7_chain_101 : decode cX7_chain 101 = .ok (.istore 8, 2) := by decide +kernel
theorem dX7_chain_103 : decode cX7_chain 103 = .ok (.iload 4, 2) := by decide +kernel
theorem dX7_chain_105 : decode cX7_chain 105 = .ok (.ifCond .le 8, 3) := by decide +kernel
theorem dX7_chain_108 : decode cX7_chain 108 = .ok (.iload 6, 2) := by decide +kernel
theorem dX7_chain_110 : decode cX7_chain 110 = .ok (.goto 5, 3) := by decide +kernel
theorem dX7_chain_113 : decode cX7_chain 113 = .ok (.iload 7, 2) := by decide +kernel
theorem dX7_chain_115 : decode cX7_chain 115 = .ok (.istore 9, 2) := by decide +kernel
theorem dX7_chain_117 : decode cX7_chain 117 = .ok (.iload 4, 2) := by decide +kernel
theorem dX7_chain_119 : decode cX7_chain 119 = .ok (.ifCond .le 10, 3) := by decide +kernel
theorem dX7_chain_122 : decode cX7_chain 122 = .ok (.iload 4, 2) := by decide +kernel
theorem dX7_chain_124 : decode cX7_chain 124 = .ok (.iconst 1, 1) := by decide +kernel
theorem dX7_chain_125 : decode cX7_chain 125 = .ok (.isub, 1) := by decide +kernel
theorem dX7_chain_126 : decode cX7_chain 126 = .ok (.goto 6, 3) := by decide +kernel
theorem dX7_chain_129 : decode cX7_chain 129 = .ok (.iload 4, 2) := by decide +kernel
theorem dX7_chain_131 : decode cX7_chain 131 = .ok (.ineg, 1) := by decide +kernel
theorem dX7_chain_132 : decode cX7_chain 132 = .ok (.istore 10, 2) := by decide +kernel
theorem dX7_chain_134 : decode cX7_chain 134 = .ok (.iconst 0, 1) := by decide +kernel
theorem dX7_chain_135 : decode cX7_chain 135 = .ok (.istore 11, 2) := by decide +kernel
theorem dX7_chain_137 : decode cX7_chain 137 = .ok (.iload 11, 2) := by decide +kernel
theorem dX7_chain_139 : decode cX7_chain 139 = .ok (.iload 10, 2) := by decide +kernel
theorem dX7_chain_141 : decode cX7_chain 141 = .ok (.if_icmp .ge 79, 3) := by decide +kernel
theorem dX7_chain_144 : decode cX7_chain 144 = .ok (.aload_n 0, 1) := by decide +kernel
theorem dX7_chain_145 : decode cX7_chain 145 = .ok (.iload 9, 2) := by decide +kernel
theorem dX7_chain_147 : decode cX7_chain 147 = .ok (.invokevirtual 124, 3) := by decide +kernel
theorem dX7_chain_150 : decode cX7_chain 150 = .ok (.iconst 3, 1) := by decide +kernel
theorem dX7_chain_151 : decode cX7_chain 151 = .ok (.iload 9, 2) := by decide +kernel
theorem dX7_chain_153 : decode cX7_chain 153 = .ok (.imul, 1) := by decide +kernel
theorem dX7_chain_154 : decode cX7_chain 154 = .ok (.istore 12, 2) := by decide +kernel
theorem dX7_chain_156 : decode cX7_chain 156 = .ok (.aload_n 0, 1) := by decide +kernel
theorem dX7_chain_157 : decode cX7_chain 157 = .ok (.getfield 26, 3) := by decide +kernel
theorem dX7_chain_160 : decode cX7_chain 160 = .ok (.iload 12, 2) := by decide +kernel
theorem dX7_chain_162 : decode cX7_chain 162 = .ok (.laload, 1) := by decide +kernel
theorem dX7_chain_163 : decode cX7_chain 163 = .ok (.invokestatic 90, 3) := by decide +kernel
theorem dX7_chain_166 : decode cX7_chain 166 = .ok (.ifCond .eq 33, 3) := by decide +kernel
theorem dX7_chain_169 : decode cX7_chain 169 = .ok (.aload_n 0, 1) := by decide +kernel
theorem dX7_chain_170 : decode cX7_chain 170 = .ok (.getfield 26, 3) := by decide +kernel
theorem dX7_chain_173 : decode cX7_chain 173 = .ok (.iload 12, 2) := by decide +kernel
theorem dX7_chain_175 : decode cX7_chain 175 = .ok (.iconst 1, 1) := by decide +kernel
theorem dX7_chain_176 : decode cX7_chain 176 = .ok (.iadd, 1) := by decide +kernel
theorem dX7_chain_177 : decode cX7_chain 177 = .ok (.laload, 1) := by decide +kernel
theorem dX7_chain_178 : decode cX7_chain 178 = .ok (.invokestatic 94, 3) := by decide +kernel
theorem dX7_chain_181 : decode cX7_chain 181 = .ok (.ifCond .eq 18, 3) := by decide +kernel
theorem dX7_chain_184 : decode cX7_chain 184 = .ok (.aload_n 0, 1) := by decide +kernel
theorem dX7_chain_185 : decode cX7_chain 185 = .ok (.getfield 26, 3) := by decide +kernel
theorem dX7_chain_188 : decode cX7_chain 188 = .ok (.iload 12, 2) := by decide +kernel
theorem dX7_chain_190 : decode cX7_chain 190 = .ok (.iconst 2, 1) := by decide +kernel
theorem dX7_chain_191 : decode cX7_chain 191 = .ok (.iadd, 1) := by decide +kernel
theorem dX7_chain_192 : decode cX7_chain 192 = .ok (.laload, 1) := by decide +kernel
theorem dX7_chain_193 : decode cX7_chain 193 = .ok (.invokestatic 94, 3) := by decide +kernel
theorem dX7_chain_196 : decode cX7_chain 196 = .ok (.ifCond .ne 6, 3) := by decide +kernel
theorem dX7_chain_199 : decode cX7_chain 199 = .ok (.ldc 194, 2) := by decide +kernel
theorem dX7_chain_201 : decode cX7_chain 201 = .ok (.ireturn, 1) := by decide +kernel
theorem dX7_chain_202 : decode cX7_chain 202 = .ok (.iload 8, 2) := by decide +kernel
theorem dX7_chain_204 : decode cX7_chain 204 = .ok (.istore 13, 2) := by decide +kernel
theorem dX7_chain_206 : decode cX7_chain 206 = .ok (.iload 9, 2) := by decide +kernel
theorem dX7_chain_208 : decode cX7_chain 208 = .ok (.istore 8, 2) := by decide +kernel
theorem dX7_chain_210 : decode cX7_chain 210 = .ok (.iload 13, 2) := by decide +kernel
theorem dX7_chain_212 : decode cX7_chain 212 = .ok (.istore 9, 2) := by decide +kernel
theorem dX7_chain_214 : decode cX7_chain 214 = .ok (.iinc 11 1, 3) := by decide +kernel
theorem dX7_chain_217 : decode cX7_chain 217 = .ok (.goto (-80), 3) := by decide +kernel
theorem dX7_chain_220 : decode cX7_chain 220 = .ok (.aload_n 0, 1) := by decide +kernel
theorem dX7_chain_221 : decode cX7_chain 221 = .ok (.getfield 26, 3) := by decide +kernel
theorem dX7_chain_224 : decode cX7_chain 224 = .ok (.iconst 3, 1) := by decide +kernel
theorem dX7_chain_225 : decode cX7_chain 225 = .ok (.iload 8, 2) := by decide +kernel
theorem dX7_chain_227 : decode cX7_chain 227 = .ok (.imul, 1) := by decide +kernel
theorem dX7_chain_228 : decode cX7_chain 228 = .ok (.iload 5, 2) := by decide +kernel
theorem dX7_chain_230 : decode cX7_chain 230 = .ok (.iadd, 1) := by decide +kernel
theorem dX7_chain_231 : decode cX7_chain 231 = .ok (.laload, 1) := by decide +kernel
theorem dX7_chain_232 : decode cX7_chain 232 = .ok (.l2i, 1) := by decide +kernel
theorem dX7_chain_233 : decode cX7_chain 233 = .ok (.ireturn, 1) := by decide +kernel
theorem dX7_count_0 : decode cX7_count 0 = .ok (.iload_n 1, 1) := by decide +kernel
theorem dX7_count_1 : decode cX7_count 1 = .ok (.ifCond .ne 10, 3) := by decide +kernel
theorem dX7_count_4 : decode cX7_count 4 = .ok (.aload_n 0, 1) := by decide +kernel
theorem dX7_count_5 : decode cX7_count 5 = .ok (.getfield 79, 3) := by decide +kernel
theorem dX7_count_8 : decode cX7_count 8 = .ok (.goto 28, 3) := by decide +kernel
theorem dX7_count_11 : decode cX7_count 11 = .ok (.iload_n 1, 1) := by decide +kernel
theorem dX7_count_12 : decode cX7_count 12 = .ok (.iconst 1, 1) := by decide +kernel
theorem dX7_count_13 : decode cX7_count 13 = .ok (.if_icmp .ne 10, 3) := by decide +kernel
theorem dX7_count_16 : decode cX7_count 16 = .ok (.aload_n 0, 1) := by decide +kernel
theorem dX7_count_17 : decode cX7_count 17 = .ok (.getfield 171, 3) := by decide +kernel
theorem dX7_count_20 : decode cX7_count 20 = .ok (.goto 16, 3) := by decide +kernel
theorem dX7_count_23 : decode cX7_count 23 = .ok (.iload_n 1, 1) := by decide +kernel
theorem dX7_count_24 : decode cX7_count 24 = .ok (.iconst 2, 1) := by decide +kernel
theorem dX7_count_25 : decode cX7_count 25 = .ok (.if_icmp .ne 10, 3) := by decide +kernel
theorem dX7_count_28 : decode cX7_count 28 = .ok (.aload_n 0, 1) := by decide +kernel
theorem dX7_count_29 : decode cX7_count 29 = .ok (.getfield 174, 3) := by decide +kernel
theorem dX7_count_32 : decode cX7_count 32 = .ok (.goto 4, 3) := by decide +kernel
theorem dX7_count_35 : decode cX7_count 35 = .ok (.iconst (-1), 1) := by decide +kernel
theorem dX7_count_36 : decode cX7_count 36 = .ok (.ireturn, 1) := by decide +kernel
