theorem dX6_init_0 : decode cX6_init 0 = .ok (.aload_n 0, 1) := by decide +kernel
theorem dX6_init_1 : decode cX6_init 1 = .ok (.invokespecial 1, 3) := by decide +kernel
theorem dX6_init_4 : decode cX6_init 4 = .ok (.aload_n 0, 1) := by decide +kernel
theorem dX6_init_5 : decode cX6_init 5 = .ok (.bipush 6, 2) := by decide +kernel
theorem dX6_init_7 : decode cX6_init 7 = .ok (.anewarray 9, 3) := by decide +kernel
theorem dX6_init_10 : decode cX6_init 10 = .ok (.putfield 11, 3) := by decide +kernel
theorem dX6_init_13 : decode cX6_init 13 = .ok (.aload_n 0, 1) := by decide +kernel
theorem dX6_init_14 : decode cX6_init 14 = .ok (.bipush 60, 2) := by decide +kernel
theorem dX6_init_16 : decode cX6_init 16 = .ok (.anewarray 15, 3) := by decide +kernel
theorem dX6_init_19 : decode cX6_init 19 = .ok (.putfield 17, 3) := by decide +kernel
theorem dX6_init_22 : decode cX6_init 22 = .ok (.aload_n 0, 1) := by decide +kernel
theorem dX6_init_23 : decode cX6_init 23 = .ok (.iconst 0, 1) := by decide +kernel
theorem dX6_init_24 : decode cX6_init 24 = .ok (.putfield 21, 3) := by decide +kernel
theorem dX6_init_27 : decode cX6_init 27 = .ok (.aload_n 0, 1) := by decide +kernel
theorem dX6_init_28 : decode cX6_init 28 = .ok (.new 25, 3) := by decide +kernel
theorem dX6_init_31 : decode cX6_init 31 = .ok (.dup, 1) := by decide +kernel
theorem dX6_init_32 : decode cX6_init 32 = .ok (.invokespecial 27, 3) := by decide +kernel
theorem dX6_init_35 : decode cX6_init 35 = .ok (.putfield 28, 3) := by decide +kernel
theorem dX6_init_38 : decode cX6_init 38 = .ok (.aload_n 0, 1) := by decide +kernel
theorem dX6_init_39 : decode cX6_init 39 = .ok (.new 32, 3) := by decide +kernel
theorem dX6_init_42 : decode cX6_init 42 = .ok (.dup, 1) := by decide +kernel
theorem dX6_init_43 : decode cX6_init 43 = .ok (.invokespecial 34, 3) := by decide +kernel
theorem dX6_init_46 : decode cX6_init 46 = .ok (.putfield 35, 3) := by decide +kernel
theorem dX6_init_49 : decode cX6_init 49 = .ok (.aload_n 0, 1) := by decide +kernel
theorem dX6_init_50 : decode cX6_init 50 = .ok (.new 39, 3) := by decide +kernel
theorem dX6_init_53 : decode cX6_init 53 = .ok (.dup, 1) := by decide +kernel
theorem dX6_init_54 : decode cX6_init 54 = .ok (.invokespecial 41, 3) := by decide +kernel
theorem dX6_init_57 : decode cX6_init 57 = .ok (.putfield 42, 3) := by decide +kernel
theorem dX6_init_60 : decode cX6_init 60 = .ok (.aload_n 0, 1) := by decide +kernel
theorem dX6_init_61 : decode cX6_init 61 = .ok (.new 46, 3) := by decide +kernel
theorem dX6_init_64 : decode cX6_init 64 = .ok (.dup, 1) := by decide +kernel
theorem dX6_init_65 : decode cX6_init 65 = .ok (.invokespecial 48, 3) := by decide +kernel
theorem dX6_init_68 : decode cX6_init 68 = .ok (.putfield 49, 3) := by decide +kernel
theorem dX6_init_71 : decode cX6_init 71 = .ok (.aload_n 0, 1) := by decide +kernel
theorem dX6_init_72 : decode cX6_init 72 = .ok (.new 46, 3) := by decide +kernel
theorem dX6_init_75 : decode cX6_init 75 = .ok (.dup, 1) := by decide +kernel
theorem dX6_init_76 : decode cX6_init 76 = .ok (.invokespecial 48, 3) := by decide +kernel
theorem dX6_init_79 : decode cX6_init 79 = .ok (.putfield 53, 3) := by decide +kernel
theorem dX6_init_82 : decode cX6_init 82 = .ok (.iconst 0, 1) := by decide +kernel
theorem dX6_init_83 : decode cX6_init 83 = .ok (.istore_n 1, 1) := by decide +kernel
theorem dX6_init_84 : decode cX6_init 84 = .ok (.iload_n 1, 1) := by decide +kernel
theorem dX6_init_85 : decode cX6_init 85 = .ok (.bipush 6, 2) := by decide +kernel
theorem dX6_init_87 : decode cX6_init 87 = .ok (.if_icmp .ge 22, 3) := by decide +kernel
theorem dX6_init_90 : decode cX6_init 90 = .ok (.aload_n 0, 1) := by decide +kernel
theorem dX6_init_91 : decode cX6_init 91 = .ok (.getfield 11, 3) := by decide +kernel
theorem dX6_init_94 : decode cX6_init 94 = .ok (.iload_n 1, 1) := by decide +kernel
theorem dX6_init_95 : decode cX6_init 95 = .ok (.new 9, 3) := by decide +kernel
theorem dX6_init_98 : decode cX6_init 98 = .ok (.dup, 1) := by decide +kernel
theorem dX6_init_99 : decode cX6_init 99 = .ok (.invokespecial 56, 3) := by decide +kernel
theorem dX6_init_102 : decode cX6_init 102 = .ok (.aastore, 1) := by decide +kernel
theorem dX6_init_103 : decode cX6_init 103 = .ok (.iinc 1 1, 3) := by decide +kernel
theorem dX6_init_106 : decode cX6_init 106 = .ok (.goto (-22), 3) := by decide +kernel
theorem dX6_init_109 : decode cX6_init 109 = .ok (.iconst 0, 1) := by decide +kernel
theorem dX6_init_110 : decode cX6_init 110 = .ok (.istore_n 1, 1) := by decide +kernel
theorem dX6_init_111 : decode cX6_init 111 = .ok (.iload_n 1, 1) := by decide +kernel
theorem dX6_init_112 : decode cX6_init 112 = .ok (.bipush 60, 2) := by decide +kernel
theorem dX6_init_114 : decode cX6_init 114 = .ok (.if_icmp .ge 22, 3) := by decide +kernel
theorem dX6_init_117 : decode cX6_init 117 = .ok (.aload_n 0, 1) := by decide +kernel
theorem dX6_init_118 : decode cX6_init 118 = .ok (.getfield 17, 3) := by decide +kernel
theorem dX6_init_121 : decode cX6_init 121 = .ok (.iload_n 1, 1) := by decide +kernel
theorem dX6_init_122 : decode cX6_init 122 = .ok (.new 15, 3) := by decide +kernel
theorem dX6_init_125 : decode cX6_init 125 = .ok (.dup, 1) := by decide +kernel
theorem dX6_init_126 : decode cX6_init 126 = .ok (.invokespecial 57, 3) := by decide +kernel
theorem dX6_init_129 : decode cX6_init 129 = .ok (.aastore, 1) := by decide +kernel
theorem dX6_init_130 : decode cX6_init 130 = .ok (.iinc 1 1, 3) := by decide +kernel
theorem dX6_init_133 : decode cX6_init 133 = .ok (.goto (-22), 3) := by decide +kernel
theorem dX6_init_136 : decode cX6_init 136 = .ok (.return_, 1) := by decide +kernel
theorem dX6_bag_0 : decode cX6_bag 0 = .ok (.iload_n 1, 1) := by decide +kernel
theorem dX6_bag_1 : decode cX6_bag 1 = .ok (.invokestatic 58, 3) := by decide +kernel
theorem dX6_bag_4 : decode cX6_bag 4 = .ok (.ifCond .eq 13, 3) := by decide +kernel
theorem dX6_bag_7 : decode cX6_bag 7 = .ok (.iload_n 2, 1) := by decide +kernel
theorem dX6_bag_8 : decode cX6_bag 8 = .ok (.iconst (-1), 1) := by decide +kernel
theorem dX6_bag_9 : decode cX6_bag 9 = .ok (.if_icmp .lt 8, 3) := by decide +kernel
theorem dX6_bag_12 : decode cX6_bag 12 = .ok (.iload_n 2, 1) := by decide +kernel
theorem dX6_bag_13 : decode cX6_bag 13 = .ok (.iconst 2, 1) := by decide +kernel
theorem dX6_bag_14 : decode cX6_bag 14 = .ok (.if_icmp .le 5, 3) := by decide +kernel
theorem dX6_bag_17 : decode cX6_bag 17 = .ok (.iconst (-1), 1) := by decide +kernel
theorem dX6_bag_18 : decode cX6_bag 18 = .ok (.ireturn, 1) := by decide +kernel
theorem dX6_bag_19 : decode cX6_bag 19 = .ok (.iload_n 2, 1) := by decide +kernel
theorem dX6_bag_20 : decode cX6_bag 20 = .ok (.iconst (-1), 1) := by decide +kernel
theorem dX6_bag_21 : decode cX6_bag 21 = .ok (.if_icmp .ne 16, 3) := by decide +kernel
theorem dX6_bag_24 : decode cX6_bag 24 = .ok (.aload_n 0, 1) := by decide +kernel
theorem dX6_bag_25 : decode cX6_bag 25 = .ok (.getfield 11, 3) := by decide +kernel
theorem dX6_bag_28 : decode cX6_bag 28 = .ok (.iload_n 1, 1) := by decide +kernel
theorem dX6_bag_29 : decode cX6_bag 29 = .ok (.aaload, 1) := by decide +kernel
theorem dX6_bag_30 : decode cX6_bag 30 = .ok (.iconst (-1), 1) := by decide +kernel
theorem dX6_bag_31 : decode cX6_bag 31 = .ok (.iconst 0, 1) := by decide +kernel
theorem dX6_bag_32 : decode cX6_bag 32 = .ok (.invokevirtual 62, 3) := by decide +kernel
theorem dX6_bag_35 : decode cX6_bag 35 = .ok (.iconst 0, 1) := by decide +kernel
theorem dX6_bag_36 : decode cX6_bag 36 = .ok (.ireturn, 1) := by decide +kernel
theorem dX6_bag_37 : decode cX6_bag 37 = .ok (.iload_n 3, 1) := by decide +kernel
theorem dX6_bag_38 : decode cX6_bag 38 = .ok (.bipush 24, 2) := by decide +kernel
theorem dX6_bag_40 : decode cX6_bag 40 = .ok (.if_icmp .le 5, 3) := by decide +kernel
theorem dX6_bag_43 : decode cX6_bag 43 = .ok (.iconst (-1), 1) := by decide +kernel
theorem dX6_bag_44 : decode cX6_bag 44 = .ok (.ireturn, 1) := by decide +kernel
theorem dX6_bag_45 : decode cX6_bag 45 = .ok (.iload_n 3, 1) := by decide +kernel
theorem dX6_bag_46 : decode cX6_bag 46 = .ok (.ifCond .ge 6, 3) := by decide +kernel
theorem dX6_bag_49 : decode cX6_bag 49 = .ok (.bipush (-13), 2) := by decide +kernel
theorem dX6_bag_51 : decode cX6_bag 51 = .ok (.ireturn, 1) := by decide +kernel
theorem dX6_bag_52 : decode cX6_bag 52 = .ok (.aload_n 0, 1) := by decide +kernel
theorem dX6_bag_53 : decode cX6_bag 53 = .ok (.getfield 11, 3) := by decide +kernel
theorem dX6_bag_56 : decode cX6_bag 56 = .ok (.iload_n 1, 1) := by decide +kernel
theorem dX6_bag_57 : decode cX6_bag 57 = .ok (.aaload, 1) := by decide +kernel
theorem dX6_bag_58 : decode cX6_bag 58 = .ok (.iload_n 2, 1) := by decide +kernel
theorem dX6_bag_59 : decode cX6_bag 59 = .ok (.iload_n 3, 1) := by decide +kernel
theorem dX6_bag_60 : decode cX6_bag 60 = .ok (.invokevirtual 62, 3) := by decide +kernel
theorem dX6_bag_63 : decode cX6_bag 63 = .ok (.iconst 0, 1) := by decide +kernel
theorem dX6_bag_64 : decode cX6_bag 64 = .ok (.ireturn, 1) := by decide +kernel
theorem dX6_put_0 : decode cX6_put 0 = .ok (.aload_n 0, 1) := by decide +kernel
theorem dX6_put_1 : decode cX6_put 1 = .ok (.iload_n 1, 1) := by decide +kernel
theorem dX6_put_2 : decode cX6_put 2 = .ok (.iload_n 2, 1) := by decide +kernel
theorem dX6_put_3 : decode cX6_put 3 = .ok (.iconst 1, 1) := by decide +kernel
theorem dX6_put_4 : decode cX6_put 4 = .ok (.invokevirtual 66, 3) := by decide +kernel
theorem dX6_put_7 : decode cX6_put 7 = .ok (.istore 5, 2) := by decide +kernel
theorem dX6_put_9 : decode cX6_put 9 = .ok (.iload 5, 2) := by decide +kernel
theorem dX6_put_11 : decode cX6_put 11 = .ok (.ifCond .eq 6, 3) := by decide +kernel
theorem dX6_put_14 : decode cX6_put 14 = .ok (.iload 5, 2) := by decide +kernel
theorem dX6_put_16 : decode cX6_put 16 = .ok (.ireturn, 1) := by decide +kernel
theorem dX6_put_17 : decode cX6_put 17 = .ok (.aload_n 0, 1) := by decide +kernel
theorem dX6_put_18 : decode cX6_put 18 = .ok (.getfield 11, 3) := by decide +kernel
theorem dX6_put_21 : decode cX6_put 21 = .ok (.iload_n 1, 1) := by decide +kernel
theorem dX6_put_22 : decode cX6_put 22 = .ok (.aaload, 1) := by decide +kernel
theorem dX6_put_23 : decode cX6_put 23 = .ok (.iload_n 2, 1) := by decide +kernel
theorem dX6_put_24 : decode cX6_put 24 = .ok (.lload_n 3, 1) := by decide +kernel
theorem dX6_put_25 : decode cX6_put 25 = .ok (.invokevirtual 70, 3) := by decide +kernel
theorem dX6_put_28 : decode cX6_put 28 = .ok (.iconst 0, 1) := by decide +kernel
theorem dX6_put_29 : decode cX6_put 29 = .ok (.ireturn, 1) := by decide +kernel
theorem dX6_copy_0 : decode cX6_copy 0 = .ok (.iload_n 1, 1) := by decide +kernel
theorem dX6_copy_1 : decode cX6_copy 1 = .ok (.invokestatic 58, 3) := by decide +kernel
theorem dX6_copy_4 : decode cX6_copy 4 = .ok (.ifCond .eq 10, 3) := by decide +kernel
theorem dX6_copy_7 : decode cX6_copy 7 = .ok (.iload_n 3, 1) := by decide +kernel
theorem dX6_copy_8 : decode cX6_copy 8 = .ok (.invokestatic 58, 3) := by decide +kernel
theorem dX6_copy_11 : decode cX6_copy 11 = .ok (.ifCond .ne 5, 3) := by decide +kernel
theorem dX6_copy_14 : decode cX6_copy 14 = .ok (.iconst (-1), 1) := by decide +kernel
theorem dX6_copy_15 : decode cX6_copy 15 = .ok (.ireturn, 1) := by decide +kernel
theorem dX6_copy_16 : decode cX6_copy 16 = .ok (.aload_n 0, 1) := by decide +kernel
theorem dX6_copy_17 : decode cX6_copy 17 = .ok (.getfield 11, 3) := by decide +kernel
theorem dX6_copy_20 : decode cX6_copy 20 = .ok (.iload_n 1, 1) := by decide +kernel
theorem dX6_copy_21 : decode cX6_copy 21 = .ok (.aaload, 1) := by decide +kernel
theorem dX6_copy_22 : decode cX6_copy 22 = .ok (.astore 6, 2) := by decide +kernel
theorem dX6_copy_24 : decode cX6_copy 24 = .ok (.aload_n 0, 1) := by decide +kernel
theorem dX6_copy_25 : decode cX6_copy 25 = .ok (.getfield 11, 3) := by decide +kernel
theorem dX6_copy_28 : decode cX6_copy 28 = .ok (.iload_n 3, 1) := by decide +kernel
theorem dX6_copy_29 : decode cX6_copy 29 = .ok (.aaload, 1) := by decide +kernel
theorem dX6_copy_30 : decode cX6_copy 30 = .ok (.astore 7, 2) := by decide +kernel
theorem dX6_copy_32 : decode cX6_copy 32 = .ok (.aload 6, 2) := by decide +kernel
theorem dX6_copy_34 : decode cX6_copy 34 = .ok (.getfield 74, 3) := by decide +kernel
theorem dX6_copy_37 : decode cX6_copy 37 = .ok (.iconst (-1), 1) := by decide +kernel
theorem dX6_copy_38 : decode cX6_copy 38 = .ok (.if_icmp .eq 12, 3) := by decide +kernel
theorem dX6_copy_41 : decode cX6_copy 41 = .ok (.aload 7, 2) := by decide +kernel
theorem dX6_copy_43 : decode cX6_copy 43 = .ok (.getfield 74, 3) := by decide +kernel
theorem dX6_copy_46 : decode cX6_copy 46 = .ok (.iconst (-1), 1) := by decide +kernel
theorem dX6_copy_47 : decode cX6_copy 47 = .ok (.if_icmp .ne 6, 3) := by decide +kernel
theorem dX6_copy_50 : decode cX6_copy 50 = .ok (.bipush (-11), 2) := by decide +kernel
theorem dX6_copy_52 : decode cX6_copy 52 = .ok (.ireturn, 1) := by decide +kernel
theorem dX6_copy_53 : decode cX6_copy 53 = .ok (.aload 6, 2) := by decide +kernel
theorem dX6_copy_55 : decode cX6_copy 55 = .ok (.getfield 74, 3) := by decide +kernel
theorem dX6_copy_58 : decode cX6_copy 58 = .ok (.aload 7, 2) := by decide +kernel
theorem dX6_copy_60 : decode cX6_copy 60 = .ok (.getfield 74, 3) := by decide +kernel
theorem dX6_copy_63 : decode cX6_copy 63 = .ok (.if_icmp .eq 6, 3) := by decide +kernel
theorem dX6_copy_66 : decode cX6_copy 66 = .ok (.bipush (-14), 2) := by decide +kernel
theorem dX6_copy_68 : decode cX6_copy 68 = .ok (.ireturn, 1) := by decide +kernel
theorem dX6_copy_69 : decode cX6_copy 69 = .ok (.aload 6, 2) := by decide +kernel
theorem dX6_copy_71 : decode cX6_copy 71 = .ok (.iload_n 2, 1) := by decide +kernel
theorem dX6_copy_72 : decode cX6_copy 72 = .ok (.iload 5, 2) := by decide +kernel
theorem dX6_copy_74 : decode cX6_copy 74 = .ok (.invokevirtual 77, 3) := by decide +kernel
theorem dX6_copy_77 : decode cX6_copy 77 = .ok (.ifCond .eq 15, 3) := by decide +kernel
theorem dX6_copy_80 : decode cX6_copy 80 = .ok (.aload 7, 2) := by decide +kernel
theorem dX6_copy_82 : decode cX6_copy 82 = .ok (.iload 4, 2) := by decide +kernel
theorem dX6_copy_84 : decode cX6_copy 84 = .ok (.iload 5, 2) := by decide +kernel
theorem dX6_copy_86 : decode cX6_copy 86 = .ok (.invokevirtual 77, 3) := by decide +kernel
theorem dX6_copy_89 : decode cX6_copy 89 = .ok (.ifCond .ne 6, 3) := by decide +kernel
theorem dX6_copy_92 : decode cX6_copy 92 = .ok (.bipush (-12), 2) := by decide +kernel
theorem dX6_copy_94 : decode cX6_copy 94 = .ok (.ireturn, 1) := by decide +kernel
theorem dX6_copy_95 : decode cX6_copy 95 = .ok (.aload 6, 2) := by decide +kernel
theorem dX6_copy_97 : decode cX6_copy 97 = .ok (.getfield 81, 3) := by decide +kernel
theorem dX6_copy_100 : decode cX6_copy 100 = .ok (.iload_n 2, 1) := by decide +kernel
theorem dX6_copy_101 : decode cX6_copy 101 = .ok (.aload 7, 2) := by decide +kernel
theorem dX6_copy_103 : decode cX6_copy 103 = .ok (.getfield 81, 3) := by decide +kernel
theorem dX6_copy_106 : decode cX6_copy 106 = .ok (.iload 4, 2) := by decide +kernel
theorem dX6_copy_108 : decode cX6_copy 108 = .ok (.iload 5, 2) := by decide +kernel
theorem dX6_copy_110 : decode cX6_copy 110 = .ok (.invokestatic 85, 3) := by decide +kernel
theorem dX6_copy_113 : decode cX6_copy 113 = .ok (.iconst 0, 1) := by decide +kernel
theorem dX6_copy_114 : decode cX6_copy 114 = .ok (.ireturn, 1) := by decide +kernel
theorem dX6_holds_0 : decode cX6_holds 0 = .ok (.aload_n 0, 1) := by decide +kernel
theorem dX6_holds_1 : decode cX6_holds 1 = .ok (.iload_n 1, 1) := by decide +kernel
theorem dX6_holds_2 : decode cX6_holds 2 = .ok (.iload_n 2, 1) := by decide +kernel
theorem dX6_holds_3 : decode cX6_holds 3 = .ok (.iconst 1, 1) := by decide +kernel
theorem dX6_holds_4 : decode cX6_holds 4 = .ok (.invokevirtual 66, 3) := by decide +kernel
theorem dX6_holds_7 : decode cX6_holds 7 = .ok (.istore 5, 2) := by decide +kernel
theorem dX6_holds_9 : decode cX6_holds 9 = .ok (.iload 5, 2) := by decide +kernel
theorem dX6_holds_11 : decode cX6_holds 11 = .ok (.ifCond .eq 6, 3) := by decide +kernel
theorem dX6_holds_14 : decode cX6_holds 14 = .ok (.iload 5, 2) := by decide +kernel
theorem dX6_holds_16 : decode cX6_holds 16 = .ok (.ireturn, 1) := by decide +kernel
theorem dX6_holds_17 : decode cX6_holds 17 = .ok (.aload_n 0, 1) := by decide +kernel
theorem dX6_holds_18 : decode cX6_holds 18 = .ok (.getfield 11, 3) := by decide +kernel
theorem dX6_holds_21 : decode cX6_holds 21 = .ok (.iload_n 1, 1) := by decide +kernel
theorem dX6_holds_22 : decode cX6_holds 22 = .ok (.aaload, 1) := by decide +kernel
theorem dX6_holds_23 : decode cX6_holds 23 = .ok (.getfield 81, 3) := by decide +kernel
theorem dX6_holds_26 : decode cX6_holds 26 = .ok (.iload_n 2, 1) := by decide +kernel
theorem dX6_holds_27 : decode cX6_holds 27 = .ok (.laload, 1) := by decide +kernel
theorem dX6_holds_28 : decode cX6_holds 28 = .ok (.lload_n 3, 1) := by decide +kernel
theorem dX6_holds_29 : decode cX6_holds 29 = .ok (.lcmp, 1) := by decide +kernel
theorem dX6_holds_30 : decode cX6_holds 30 = .ok (.ifCond .ne 7, 3) := by decide +kernel
theorem dX6_holds_33 : decode cX6_holds 33 = .ok (.iconst 1, 1) := by decide +kernel
theorem dX6_holds_34 : decode cX6_holds 34 = .ok (.goto 4, 3) := by decide +kernel
theorem dX6_holds_37 : decode cX6_holds 37 = .ok (.iconst 0, 1) := by decide +kernel
theorem dX6_holds_38 : decode cX6_holds 38 = .ok (.ireturn, 1) := by decide +kernel
theorem dX6_quad_0 : decode cX6_quad 0 = .ok (.aload_n 0, 1) := by decide +kernel
theorem dX6_quad_1 : decode cX6_quad 1 = .ok (.iload_n 1, 1) := by decide +kernel
theorem dX6_quad_2 : decode cX6_quad 2 = .ok (.iload_n 2, 1) := by decide +kernel
theorem dX6_quad_3 : decode cX6_quad 3 = .ok (.bipush 12, 2) := by decide +kernel
theorem dX6_quad_5 : decode cX6_quad 5 = .ok (.invokevirtual 66, 3) := by decide +kernel
theorem dX6_quad_8 : decode cX6_quad 8 = .ok (.istore_n 3, 1) := by decide +kernel
theorem dX6_quad_9 : decode cX6_quad 9 = .ok (.iload_n 3, 1) := by decide +kernel
theorem dX6_quad_10 : decode cX6_quad 10 = .ok (.ifCond .eq 5, 3) := by decide +kernel
theorem dX6_quad_13 : decode cX6_quad 13 = .ok (.iload_n 3, 1) := by decide +kernel
theorem dX6_quad_14 : decode cX6_quad 14 = .ok (.ireturn, 1) := by decide +kernel
theorem dX6_quad_15 : decode cX6_quad 15 = .ok (.aload_n 0, 1) := by decide +kernel
theorem dX6_quad_16 : decode cX6_quad 16 = .ok (.getfield 11, 3) := by decide +kernel
theorem dX6_quad_19 : decode cX6_quad 19 = .ok (.iload_n 1, 1) := by decide +kernel
theorem dX6_quad_20 : decode cX6_quad 20 = .ok (.aaload, 1) := by decide +kernel
theorem dX6_quad_21 : decode cX6_quad 21 = .ok (.getfield 81, 3) := by decide +kernel
theorem dX6_quad_24 : decode cX6_quad 24 = .ok (.iload_n 2, 1) := by decide +kernel
theorem dX6_quad_25 : decode cX6_quad 25 = .ok (.aload_n 0, 1) := by decide +kernel
theorem dX6_quad_26 : decode cX6_quad 26 = .ok (.getfield 28, 3) := by decide +kernel
theorem dX6_quad_29 : decode cX6_quad 29 = .ok (.getfield 91, 3) := by decide +kernel
theorem dX6_quad_32 : decode cX6_quad 32 = .ok (.iconst 0, 1) := by decide +kernel
theorem dX6_quad_33 : decode cX6_quad 33 = .ok (.bipush 12, 2) := by decide +kernel
theorem dX6_quad_35 : decode cX6_quad 35 = .ok (.invokestatic 85, 3) := by decide +kernel
theorem dX6_quad_38 : decode cX6_quad 38 = .ok (.aload_n 0, 1) := by decide +kernel
theorem dX6_quad_39 : decode cX6_quad 39 = .ok (.getfield 28, 3) := by decide +kernel
theorem dX6_quad_42 : decode cX6_quad 42 = .ok (.invokevirtual 94, 3) := by decide +kernel
theorem dX6_quad_45 : decode cX6_quad 45 = .ok (.istore_n 3, 1) := by decide +kernel
theorem dX6_quad_46 : decode cX6_quad 46 = .ok (.iload_n 3, 1) := by decide +kernel
theorem dX6_quad_47 : decode cX6_quad 47 = .ok (.ifCond .eq 5, 3) := by decide +kernel
theorem dX6_quad_50 : decode cX6_quad 50 = .ok (.iload_n 3, 1) := by decide +kernel
theorem dX6_quad_51 : decode cX6_quad 51 = .ok (.ireturn, 1) := by decide +kernel
theorem dX6_quad_52 : decode cX6_quad 52 = .ok (.aload_n 0, 1) := by decide +kernel
theorem dX6_quad_53 : decode cX6_quad 53 = .ok (.getfield 21, 3) := by decide +kernel
theorem dX6_quad_56 : decode cX6_quad 56 = .ok (.bipush 60, 2) := by decide +kernel
theorem dX6_quad_58 : decode cX6_quad 58 = .ok (.if_icmp .lt 6, 3) := by decide +kernel
theorem dX6_quad_61 : decode cX6_quad 61 = .ok (.bipush (-2), 2) := by decide +kernel
theorem dX6_quad_63 : decode cX6_quad 63 = .ok (.ireturn, 1) := by decide +kernel
theorem dX6_quad_64 : decode cX6_quad 64 = .ok (.aload_n 0, 1) := by decide +kernel
theorem dX6_quad_65 : decode cX6_quad 65 = .ok (.bipush (-3), 2) := by decide +kernel
theorem dX6_quad_67 : decode cX6_quad 67 = .ok (.aload_n 0, 1) := by decide +kernel
theorem dX6_quad_68 : decode cX6_quad 68 = .ok (.getfield 35, 3) := by decide +kernel
theorem dX6_quad_71 : decode cX6_quad 71 = .ok (.aload_n 0, 1) := by decide +kernel
theorem dX6_quad_72 : decode cX6_quad 72 = .ok (.getfield 28, 3) := by decide +kernel
theorem dX6_quad_75 : decode cX6_quad 75 = .ok (.invokevirtual 98, 3) := by decide +kernel
theorem dX6_quad_78 : decode cX6_quad 78 = .ok (.invokevirtual 102, 3) := by decide +kernel
theorem dX6_quad_81 : decode cX6_quad 81 = .ok (.ireturn, 1) := by decide +kernel
theorem dX6_swap_0 : decode cX6_swap 0 = .ok (.aload_n 0, 1) := by decide +kernel
theorem dX6_swap_1 : decode cX6_swap 1 = .ok (.iload_n 1, 1) := by decide +kernel
theorem dX6_swap_2 : decode cX6_swap 2 = .ok (.invokevirtual 106, 3) := by decide +kernel
theorem dX6_swap_5 : decode cX6_swap 5 = .ok (.ifCond .eq 10, 3) := by decide +kernel
theorem dX6_swap_8 : decode cX6_swap 8 = .ok (.iload_n 2, 1) := by decide +kernel
theorem dX6_swap_9 : decode cX6_swap 9 = .ok (.invokestatic 109, 3) := by decide +kernel
theorem dX6_swap_12 : decode cX6_swap 12 = .ok (.ifCond .ne 5, 3) := by decide +kernel
theorem dX6_swap_15 : decode cX6_swap 15 = .ok (.iconst (-1), 1) := by decide +kernel
theorem dX6_swap_16 : decode cX6_swap 16 = .ok (.ireturn, 1) := by decide +kernel
theorem dX6_swap_17 : decode cX6_swap 17 = .ok (.aload_n 0, 1) := by decide +kernel
theorem dX6_swap_18 : decode cX6_swap 18 = .ok (.getfield 28, 3) := by decide +kernel
theorem dX6_swap_21 : decode cX6_swap 21 = .ok (.aload_n 0, 1) := by decide +kernel
theorem dX6_swap_22 : decode cX6_swap 22 = .ok (.getfield 17, 3) := by decide +kernel
theorem dX6_swap_25 : decode cX6_swap 25 = .ok (.iload_n 1, 1) := by decide +kernel
theorem dX6_swap_26 : decode cX6_swap 26 = .ok (.aaload, 1) := by decide +kernel
theorem dX6_swap_27 : decode cX6_swap 27 = .ok (.getfield 112, 3) := by decide +kernel
theorem dX6_swap_30 : decode cX6_swap 30 = .ok (.invokevirtual 115, 3) := by decide +kernel
theorem dX6_swap_33 : decode cX6_swap 33 = .ok (.aload_n 0, 1) := by decide +kernel
theorem dX6_swap_34 : decode cX6_swap 34 = .ok (.getfield 28, 3) := by decide +kernel
theorem dX6_swap_37 : decode cX6_swap 37 = .ok (.iload_n 2, 1) := by decide +kernel
theorem dX6_swap_38 : decode cX6_swap 38 = .ok (.invokevirtual 119, 3) := by decide +kernel
theorem dX6_swap_41 : decode cX6_swap 41 = .ok (.aload_n 0, 1) := by decide +kernel
theorem dX6_swap_42 : decode cX6_swap 42 = .ok (.getfield 28, 3) := by decide +kernel
theorem dX6_swap_45 : decode cX6_swap 45 = .ok (.iload_n 2, 1) := by decide +kernel
theorem dX6_swap_46 : decode cX6_swap 46 = .ok (.invokevirtual 123, 3) := by decide +kernel
theorem dX6_swap_49 : decode cX6_swap 49 = .ok (.istore_n 3, 1) := by decide +kernel
theorem dX6_swap_50 : decode cX6_swap 50 = .ok (.iload_n 3, 1) := by decide +kernel
theorem dX6_swap_51 : decode cX6_swap 51 = .ok (.ifCond .eq 5, 3) := by decide +kernel
theorem dX6_swap_54 : decode cX6_swap 54 = .ok (.iload_n 3, 1) := by decide +kernel
theorem dX6_swap_55 : decode cX6_swap 55 = .ok (.ireturn, 1) := by decide +kernel
theorem dX6_swap_56 : decode cX6_swap 56 = .ok (.aload_n 0, 1) := by decide +kernel
theorem dX6_swap_57 : decode cX6_swap 57 = .ok (.getfield 21, 3) := by decide +kernel
theorem dX6_swap_60 : decode cX6_swap 60 = .ok (.bipush 60, 2) := by decide +kernel
theorem dX6_swap_62 : decode cX6_swap 62 = .ok (.if_icmp .lt 6, 3) := by decide +kernel
theorem dX6_swap_65 : decode cX6_swap 65 = .ok (.bipush (-2), 2) := by decide +kernel
theorem dX6_swap_67 : decode cX6_swap 67 = .ok (.ireturn, 1) := by decide +kernel
theorem dX6_swap_68 : decode cX6_swap 68 = .ok (.aload_n 0, 1) := by decide +kernel
theorem dX6_swap_69 : decode cX6_swap 69 = .ok (.iload_n 1, 1) := by decide +kernel
theorem dX6_swap_70 : decode cX6_swap 70 = .ok (.aload_n 0, 1) := by decide +kernel
theorem dX6_swap_71 : decode cX6_swap 71 = .ok (.getfield 17, 3) := by decide +kernel
theorem dX6_swap_74 : decode cX6_swap 74 = .ok (.iload_n 1, 1) := by decide +kernel
theorem dX6_swap_75 : decode cX6_swap 75 = .ok (.aaload, 1) := by decide +kernel
theorem dX6_swap_76 : decode cX6_swap 76 = .ok (.getfield 127, 3) := by decide +kernel
theorem dX6_swap_79 : decode cX6_swap 79 = .ok (.invokevirtual 102, 3) := by decide +kernel
theorem dX6_swap_82 : decode cX6_swap 82 = .ok (.ireturn, 1) := by decide +kernel
theorem dX6_coin_0 : decode cX6_coin 0 = .ok (.aload_n 0, 1) := by decide +kernel
theorem dX6_coin_1 : decode cX6_coin 1 = .ok (.iload_n 1, 1) := by decide +kernel
theorem dX6_coin_2 : decode cX6_coin 2 = .ok (.invokevirtual 106, 3) := by decide +kernel
theorem dX6_coin_5 : decode cX6_coin 5 = .ok (.ifCond .eq 17, 3) := by decide +kernel
theorem dX6_coin_8 : decode cX6_coin 8 = .ok (.iload_n 2, 1) := by decide +kernel
theorem dX6_coin_9 : decode cX6_coin 9 = .ok (.invokestatic 109, 3) := by decide +kernel
theorem dX6_coin_12 : decode cX6_coin 12 = .ok (.ifCond .eq 10, 3) := by decide +kernel
theorem dX6_coin_15 : decode cX6_coin 15 = .ok (.iload_n 3, 1) := by decide +kernel
theorem dX6_coin_16 : decode cX6_coin 16 = .ok (.invokestatic 130, 3) := by decide +kernel
theorem dX6_coin_19 : decode cX6_coin 19 = .ok (.ifCond .ne 6, 3) := by decide +kernel
theorem dX6_coin_22 : decode cX6_coin 22 = .ok (.ldc 133, 2) := by decide +kernel
theorem dX6_coin_24 : decode cX6_coin 24 = .ok (.ireturn, 1) := by decide +kernel
theorem dX6_coin_25 : decode cX6_coin 25 = .ok (.aload_n 0, 1) := by decide +kernel
theorem dX6_coin_26 : decode cX6_coin 26 = .ok (.getfield 17, 3) := by decide +kernel
theorem dX6_coin_29 : decode cX6_coin 29 = .ok (.iload_n 1, 1) := by decide +kernel
theorem dX6_coin_30 : decode cX6_coin 30 = .ok (.aaload, 1) := by decide +kernel
theorem dX6_coin_31 : decode cX6_coin 31 = .ok (.getfield 112, 3) := by decide +kernel
theorem dX6_coin_34 : decode cX6_coin 34 = .ok (.iload_n 2, 1) := by decide +kernel
theorem dX6_coin_35 : decode cX6_coin 35 = .ok (.iload_n 3, 1) := by decide +kernel
theorem dX6_coin_36 : decode cX6_coin 36 = .ok (.invokevirtual 134, 3) := by decide +kernel
theorem dX6_coin_39 : decode cX6_coin 39 = .ok (.l2i, 1) := by decide +kernel
theorem dX6_coin_40 : decode cX6_coin 40 = .ok (.ireturn, 1) := by decide +kernel
theorem dX6_from_0 : decode cX6_from 0 = .ok (.aload_n 0, 1) := by decide +kernel
theorem dX6_from_1 : decode cX6_from 1 = .ok (.iload_n 1, 1) := by decide +kernel
theorem dX6_from_2 : decode cX6_from 2 = .ok (.invokevirtual 106, 3) := by decide +kernel
theorem dX6_from_5 : decode cX6_from 5 = .ok (.ifCond .eq 15, 3) := by decide +kernel
theorem dX6_from_8 : decode cX6_from 8 = .ok (.aload_n 0, 1) := by decide +kernel
theorem dX6_from_9 : decode cX6_from 9 = .ok (.getfield 17, 3) := by decide +kernel
theorem dX6_from_12 : decode cX6_from 12 = .ok (.iload_n 1, 1) := by decide +kernel
theorem dX6_from_13 : decode cX6_from 13 = .ok (.aaload, 1) := by decide +kernel
theorem dX6_from_14 : decode cX6_from 14 = .ok (.getfield 138, 3) := by decide +kernel
theorem dX6_from_17 : decode cX6_from 17 = .ok (.goto 4, 3) := by decide +kernel
theorem dX6_from_20 : decode cX6_from 20 = .ok (.iconst (-1), 1) := by decide +kernel
theorem dX6_from_21 : decode cX6_from 21 = .ok (.ireturn, 1) := by decide +kernel
theorem dX6_steps_0 : decode cX6_steps 0 = .ok (.aload_n 0, 1) := by decide +kernel
theorem dX6_steps_1 : decode cX6_steps 1 = .ok (.iload_n 1, 1) := by decide +kernel
theorem dX6_steps_2 : decode cX6_steps 2 = .ok (.invokevirtual 106, 3) := by decide +kernel
theorem dX6_steps_5 : decode cX6_steps 5 = .ok (.ifCond .eq 15, 3) := by decide +kernel
theorem dX6_steps_8 : decode cX6_steps 8 = .ok (.aload_n 0, 1) := by decide +kernel
theorem dX6_steps_9 : decode cX6_steps 9 = .ok (.getfield 17, 3) := by decide +kernel
theorem dX6_steps_12 : decode cX6_steps 12 = .ok (.iload_n 1, 1) := by decide +kernel
theorem dX6_steps_13 : decode cX6_steps 13 = .ok (.aaload, 1) := by decide +kernel
theorem dX6_steps_14 : decode cX6_steps 14 = .ok (.getfield 141, 3) := by decide +kernel
theorem dX6_steps_17 : decode cX6_steps 17 = .ok (.goto 4, 3) := by decide +kernel
theorem dX6_steps_20 : decode cX6_steps 20 = .ok (.iconst (-1), 1) := by decide +kernel
theorem dX6_steps_21 : decode cX6_steps 21 = .ok (.ireturn, 1) := by decide +kernel
theorem dX6_step_0 : decode cX6_step 0 = .ok (.aload_n 0, 1) := by decide +kernel
theorem dX6_step_1 : decode cX6_step 1 = .ok (.iload_n 1, 1) := by decide +kernel
theorem dX6_step_2 : decode cX6_step 2 = .ok (.invokevirtual 106, 3) := by decide +kernel
theorem dX6_step_5 : decode cX6_step 5 = .ok (.ifCond .eq 7, 3) := by decide +kernel
theorem dX6_step_8 : decode cX6_step 8 = .ok (.iload_n 2, 1) := by decide +kernel
theorem dX6_step_9 : decode cX6_step 9 = .ok (.ifCond .ge 5, 3) := by decide +kernel
theorem dX6_step_12 : decode cX6_step 12 = .ok (.iconst (-1), 1) := by decide +kernel
theorem dX6_step_13 : decode cX6_step 13 = .ok (.ireturn, 1) := by decide +kernel
theorem dX6_step_14 : decode cX6_step 14 = .ok (.iload_n 2, 1) := by decide +kernel
theorem dX6_step_15 : decode cX6_step 15 = .ok (.aload_n 0, 1) := by decide +kernel
theorem dX6_step_16 : decode cX6_step 16 = .ok (.getfield 17, 3) := by decide +kernel
theorem dX6_step_19 : decode cX6_step 19 = .ok (.iload_n 1, 1) := by decide +kernel
theorem dX6_step_20 : decode cX6_step 20 = .ok (.aaload, 1) := by decide +kernel
theorem dX6_step_21 : decode cX6_step 21 = .ok (.getfield 141, 3) := by decide +kernel
theorem dX6_step_24 : decode cX6_step 24 = .ok (.if_icmp .lt 6, 3) := by decide +kernel
theorem dX6_step_27 : decode cX6_step 27 = .ok (.bipush (-3), 2) := by decide +kernel
theorem dX6_step_29 : decode cX6_step 29 = .ok (.ireturn, 1) := by decide +kernel
theorem dX6_step_30 : decode cX6_step 30 = .ok (.aload_n 0, 1) := by decide +kernel
theorem dX6_step_31 : decode cX6_step 31 = .ok (.getfield 28, 3) := by decide +kernel
theorem dX6_step_34 : decode cX6_step 34 = .ok (.aload_n 0, 1) := by decide +kernel
theorem dX6_step_35 : decode cX6_step 35 = .ok (.getfield 17, 3) := by decide +kernel
theorem dX6_step_38 : decode cX6_step 38 = .ok (.iload_n 1, 1) := by decide +kernel
theorem dX6_step_39 : decode cX6_step 39 = .ok (.aaload, 1) := by decide +kernel
theorem dX6_step_40 : decode cX6_step 40 = .ok (.getfield 112, 3) := by decide +kernel
theorem dX6_step_43 : decode cX6_step 43 = .ok (.invokevirtual 115, 3) := by decide +kernel
theorem dX6_step_46 : decode cX6_step 46 = .ok (.aload_n 0, 1) := by decide +kernel
theorem dX6_step_47 : decode cX6_step 47 = .ok (.getfield 28, 3) := by decide +kernel
theorem dX6_step_50 : decode cX6_step 50 = .ok (.iload_n 2, 1) := by decide +kernel
theorem dX6_step_51 : decode cX6_step 51 = .ok (.invokevirtual 144, 3) := by decide +kernel
theorem dX6_step_54 : decode cX6_step 54 = .ok (.pop, 1) := by decide +kernel
theorem dX6_step_55 : decode cX6_step 55 = .ok (.aload_n 0, 1) := by decide +kernel
theorem dX6_step_56 : decode cX6_step 56 = .ok (.getfield 28, 3) := by decide +kernel
theorem dX6_step_59 : decode cX6_step 59 = .ok (.invokevirtual 147, 3) := by decide +kernel
theorem dX6_step_62 : decode cX6_step 62 = .ok (.ireturn, 1) := by decide +kernel
theorem dX6_root_0 : decode cX6_root 0 = .ok (.aload_n 0, 1) := by decide +kernel
theorem dX6_root_1 : decode cX6_root 1 = .ok (.iload_n 1, 1) := by decide +kernel
theorem dX6_root_2 : decode cX6_root 2 = .ok (.invokevirtual 106, 3) := by decide +kernel
theorem dX6_root_5 : decode cX6_root 5 = .ok (.ifCond .eq 17, 3) := by decide +kernel
theorem dX6_root_8 : decode cX6_root 8 = .ok (.iload_n 2, 1) := by decide +kernel
theorem dX6_root_9 : decode cX6_root 9 = .ok (.invokestatic 109, 3) := by decide +kernel
theorem dX6_root_12 : decode cX6_root 12 = .ok (.ifCond .eq 10, 3) := by decide +kernel
theorem dX6_root_15 : decode cX6_root 15 = .ok (.iload_n 3, 1) := by decide +kernel
theorem dX6_root_16 : decode cX6_root 16 = .ok (.invokestatic 130, 3) := by decide +kernel
theorem dX6_root_19 : decode cX6_root 19 = .ok (.ifCond .ne 6, 3) := by decide +kernel
theorem dX6_root_22 : decode cX6_root 22 = .ok (.ldc 133, 2) := by decide +kernel
theorem dX6_root_24 : decode cX6_root 24 = .ok (.ireturn, 1) := by decide +kernel
theorem dX6_root_25 : decode cX6_root 25 = .ok (.aload_n 0, 1) := by decide +kernel
theorem dX6_root_26 : decode cX6_root 26 = .ok (.getfield 17, 3) := by decide +kernel
theorem dX6_root_29 : decode cX6_root 29 = .ok (.iload_n 1, 1) := by decide +kernel
theorem dX6_root_30 : decode cX6_root 30 = .ok (.aaload, 1) := by decide +kernel
theorem dX6_root_31 : decode cX6_root 31 = .ok (.getfield 150, 3) := by decide +kernel
theorem dX6_root_34 : decode cX6_root 34 = .ok (.iload_n 2, 1) := by decide +kernel
theorem dX6_root_35 : decode cX6_root 35 = .ok (.iload_n 3, 1) := by decide +kernel
theorem dX6_root_36 : decode cX6_root 36 = .ok (.invokevirtual 134, 3) := by decide +kernel
theorem dX6_root_39 : decode cX6_root 39 = .ok (.l2i, 1) := by decide +kernel
theorem dX6_root_40 : decode cX6_root 40 = .ok (.ireturn, 1) := by decide +kernel
theorem dX6_same_0 : decode cX6_same 0 = .ok (.aload_n 0, 1) := by decide +kernel
theorem dX6_same_1 : decode cX6_same 1 = .ok (.iload_n 1, 1) := by decide +kernel
theorem dX6_same_2 : decode cX6_same 2 = .ok (.invokevirtual 106, 3) := by decide +kernel
theorem dX6_same_5 : decode cX6_same 5 = .ok (.ifCond .eq 11, 3) := by decide +kernel
theorem dX6_same_8 : decode cX6_same 8 = .ok (.aload_n 0, 1) := by decide +kernel
theorem dX6_same_9 : decode cX6_same 9 = .ok (.iload_n 2, 1) := by decide +kernel
theorem dX6_same_10 : decode cX6_same 10 = .ok (.invokevirtual 106, 3) := by decide +kernel
theorem dX6_same_13 : decode cX6_same 13 = .ok (.ifCond .ne 5, 3) := by decide +kernel
theorem dX6_same_16 : decode cX6_same 16 = .ok (.iconst (-1), 1) := by decide +kernel
theorem dX6_same_17 : decode cX6_same 17 = .ok (.ireturn, 1) := by decide +kernel
theorem dX6_same_18 : decode cX6_same 18 = .ok (.aload_n 0, 1) := by decide +kernel
theorem dX6_same_19 : decode cX6_same 19 = .ok (.getfield 17, 3) := by decide +kernel
theorem dX6_same_22 : decode cX6_same 22 = .ok (.iload_n 1, 1) := by decide +kernel
theorem dX6_same_23 : decode cX6_same 23 = .ok (.aaload, 1) := by decide +kernel
theorem dX6_same_24 : decode cX6_same 24 = .ok (.getfield 150, 3) := by decide +kernel
theorem dX6_same_27 : decode cX6_same 27 = .ok (.aload_n 0, 1) := by decide +kernel
theorem dX6_same_28 : decode cX6_same 28 = .ok (.getfield 17, 3) := by decide +kernel
theorem dX6_same_31 : decode cX6_same 31 = .ok (.iload_n 2, 1) := by decide +kernel
theorem dX6_same_32 : decode cX6_same 32 = .ok (.aaload, 1) := by decide +kernel
theorem dX6_same_33 : decode cX6_same 33 = .ok (.getfield 150, 3) := by decide +kernel
theorem dX6_same_36 : decode cX6_same 36 = .ok (.invokevirtual 153, 3) := by decide +kernel
theorem dX6_same_39 : decode cX6_same 39 = .ok (.ifCond .eq 7, 3) := by decide +kernel
theorem dX6_same_42 : decode cX6_same 42 = .ok (.iconst 1, 1) := by decide +kernel
theorem dX6_same_43 : decode cX6_same 43 = .ok (.goto 4, 3) := by decide +kernel
theorem dX6_same_46 : decode cX6_same 46 = .ok (.iconst 0, 1) := by decide +kernel
theorem dX6_same_47 : decode cX6_same 47 = .ok (.ireturn, 1) := by decide +kernel
theorem dX6_touch_0 : decode cX6_touch 0 = .ok (.aload_n 0, 1) := by decide +kernel
theorem dX6_touch_1 : decode cX6_touch 1 = .ok (.iload_n 1, 1) := by decide +kernel
theorem dX6_touch_2 : decode cX6_touch 2 = .ok (.invokevirtual 106, 3) := by decide +kernel
theorem dX6_touch_5 : decode cX6_touch 5 = .ok (.ifCond .eq 26, 3) := by decide +kernel
theorem dX6_touch_8 : decode cX6_touch 8 = .ok (.iload_n 2, 1) := by decide +kernel
theorem dX6_touch_9 : decode cX6_touch 9 = .ok (.invokestatic 109, 3) := by decide +kernel
theorem dX6_touch_12 : decode cX6_touch 12 = .ok (.ifCond .eq 19, 3) := by decide +kernel
theorem dX6_touch_15 : decode cX6_touch 15 = .ok (.aload_n 0, 1) := by decide +kernel
theorem dX6_touch_16 : decode cX6_touch 16 = .ok (.iload_n 3, 1) := by decide +kernel
theorem dX6_touch_17 : decode cX6_touch 17 = .ok (.invokevirtual 106, 3) := by decide +kernel
theorem dX6_touch_20 : decode cX6_touch 20 = .ok (.ifCond .eq 11, 3) := by decide +kernel
theorem dX6_touch_23 : decode cX6_touch 23 = .ok (.iload 4, 2) := by decide +kernel
theorem dX6_touch_25 : decode cX6_touch 25 = .ok (.invokestatic 109, 3) := by decide +kernel
theorem dX6_touch_28 : decode cX6_touch 28 = .ok (.ifCond .ne 5, 3) := by decide +kernel
theorem dX6_touch_31 : decode cX6_touch 31 = .ok (.iconst (-1), 1) := by decide +kernel
theorem dX6_touch_32 : decode cX6_touch 32 = .ok (.ireturn, 1) := by decide +kernel
theorem dX6_touch_33 : decode cX6_touch 33 = .ok (.aload_n 0, 1) := by decide +kernel
theorem dX6_touch_34 : decode cX6_touch 34 = .ok (.getfield 17, 3) := by decide +kernel
theorem dX6_touch_37 : decode cX6_touch 37 = .ok (.iload_n 1, 1) := by decide +kernel
theorem dX6_touch_38 : decode cX6_touch 38 = .ok (.aaload, 1) := by decide +kernel
theorem dX6_touch_39 : decode cX6_touch 39 = .ok (.getfield 112, 3) := by decide +kernel
theorem dX6_touch_42 : decode cX6_touch 42 = .ok (.iload_n 2, 1) := by decide +kernel
theorem dX6_touch_43 : decode cX6_touch 43 = .ok (.aload_n 0, 1) := by decide +kernel
theorem dX6_touch_44 : decode cX6_touch 44 = .ok (.getfield 17, 3) := by decide +kernel
theorem dX6_touch_47 : decode cX6_touch 47 = .ok (.iload_n 3, 1) := by decide +kernel
theorem dX6_touch_48 : decode cX6_touch 48 = .ok (.aaload, 1) := by decide +kernel
theorem dX6_touch_49 : decode cX6_touch 49 = .ok (.getfield 112, 3) := by decide +kernel
theorem dX6_touch_52 : decode cX6_touch 52 = .ok (.iload 4, 2) := by decide +kernel
theorem dX6_touch_54 : decode cX6_touch 54 = .ok (.invokevirtual 157, 3) := by decide +kernel
theorem dX6_touch_57 : decode cX6_touch 57 = .ok (.ifCond .eq 7, 3) := by decide +kernel
theorem dX6_touch_60 : decode cX6_touch 60 = .ok (.iconst 1, 1) := by decide +kernel
theorem dX6_touch_61 : decode cX6_touch 61 = .ok (.goto 4, 3) := by decide +kernel
theorem dX6_touch_64 : decode cX6_touch 64 = .ok (.iconst 0, 1) := by decide +kernel
theorem dX6_touch_65 : decode cX6_touch 65 = .ok (.ireturn, 1) := by decide +kernel
theorem dX6_list_0 : decode cX6_list 0 = .ok (.aload_n 0, 1) := by decide +kernel
theorem dX6_list_1 : decode cX6_list 1 = .ok (.iload_n 1, 1) := by decide +kernel
theorem dX6_list_2 : decode cX6_list 2 = .ok (.invokevirtual 106, 3) := by decide +kernel
theorem dX6_list_5 : decode cX6_list 5 = .ok (.ifCond .eq 15, 3) := by decide +kernel
theorem dX6_list_8 : decode cX6_list 8 = .ok (.iload_n 2, 1) := by decide +kernel
theorem dX6_list_9 : decode cX6_list 9 = .ok (.iconst 1, 1) := by decide +kernel
theorem dX6_list_10 : decode cX6_list 10 = .ok (.if_icmp .lt 10, 3) := by decide +kernel
theorem dX6_list_13 : decode cX6_list 13 = .ok (.iload_n 2, 1) := by decide +kernel
theorem dX6_list_14 : decode cX6_list 14 = .ok (.sipush 2000, 3) := by decide +kernel
theorem dX6_list_17 : decode cX6_list 17 = .ok (.if_icmp .le 5, 3) := by decide +kernel
theorem dX6_list_20 : decode cX6_list 20 = .ok (.iconst (-1), 1) := by decide +kernel
theorem dX6_list_21 : decode cX6_list 21 = .ok (.ireturn, 1) := by decide +kernel
theorem dX6_list_22 : decode cX6_list 22 = .ok (.aload_n 0, 1) := by decide +kernel
theorem dX6_list_23 : decode cX6_list 23 = .ok (.getfield 53, 3) := by decide +kernel
theorem dX6_list_26 : decode cX6_list 26 = .ok (.iload_n 2, 1) := by decide +kernel
theorem dX6_list_27 : decode cX6_list 27 = .ok (.aload_n 0, 1) := by decide +kernel
theorem dX6_list_28 : decode cX6_list 28 = .ok (.getfield 17, 3) := by decide +kernel
theorem dX6_list_31 : decode cX6_list 31 = .ok (.iload_n 1, 1) := by decide +kernel
theorem dX6_list_32 : decode cX6_list 32 = .ok (.aaload, 1) := by decide +kernel
theorem dX6_list_33 : decode cX6_list 33 = .ok (.getfield 127, 3) := by decide +kernel
theorem dX6_list_36 : decode cX6_list 36 = .ok (.invokevirtual 161, 3) := by decide +kernel
theorem dX6_list_39 : decode cX6_list 39 = .ok (.aload_n 0, 1) := by decide +kernel
theorem dX6_list_40 : decode cX6_list 40 = .ok (.getfield 42, 3) := by decide +kernel
theorem dX6_list_43 : decode cX6_list 43 = .ok (.aload_n 0, 1) := by decide +kernel
theorem dX6_list_44 : decode cX6_list 44 = .ok (.getfield 17, 3) := by decide +kernel
theorem dX6_list_47 : decode cX6_list 47 = .ok (.iload_n 1, 1) := by decide +kernel
theorem dX6_list_48 : decode cX6_list 48 = .ok (.aaload, 1) := by decide +kernel
theorem dX6_list_49 : decode cX6_list 49 = .ok (.getfield 150, 3) := by decide +kernel
theorem dX6_list_52 : decode cX6_list 52 = .ok (.aload_n 0, 1) := by decide +kernel
theorem dX6_list_53 : decode cX6_list 53 = .ok (.getfield 53, 3) := by decide +kernel
theorem dX6_list_56 : decode cX6_list 56 = .ok (.invokevirtual 164, 3) := by decide +kernel
theorem dX6_list_59 : decode cX6_list 59 = .ok (.ifCond .ne 6, 3) := by decide +kernel
theorem dX6_list_62 : decode cX6_list 62 = .ok (.bipush (-4), 2) := by decide +kernel
theorem dX6_list_64 : decode cX6_list 64 = .ok (.ireturn, 1) := by decide +kernel
theorem dX6_list_65 : decode cX6_list 65 = .ok (.aload_n 0, 1) := by decide +kernel
theorem dX6_list_66 : decode cX6_list 66 = .ok (.getfield 49, 3) := by decide +kernel
theorem dX6_list_69 : decode cX6_list 69 = .ok (.astore_n 3, 1) := by decide +kernel
theorem dX6_list_70 : decode cX6_list 70 = .ok (.aload_n 0, 1) := by decide +kernel
theorem dX6_list_71 : decode cX6_list 71 = .ok (.aload_n 0, 1) := by decide +kernel
theorem dX6_list_72 : decode cX6_list 72 = .ok (.getfield 53, 3) := by decide +kernel
theorem dX6_list_75 : decode cX6_list 75 = .ok (.putfield 49, 3) := by decide +kernel
theorem dX6_list_78 : decode cX6_list 78 = .ok (.aload_n 0, 1) := by decide +kernel
theorem dX6_list_79 : decode cX6_list 79 = .ok (.aload_n 3, 1) := by decide +kernel
theorem dX6_list_80 : decode cX6_list 80 = .ok (.putfield 53, 3) := by decide +kernel
theorem dX6_list_83 : decode cX6_list 83 = .ok (.aload_n 0, 1) := by decide +kernel
theorem dX6_list_84 : decode cX6_list 84 = .ok (.getfield 49, 3) := by decide +kernel
theorem dX6_list_87 : decode cX6_list 87 = .ok (.getfield 167, 3) := by decide +kernel
theorem dX6_list_90 : decode cX6_list 90 = .ok (.ireturn, 1) := by decide +kernel
theorem dX6_listed_0 : decode cX6_listed 0 = .ok (.iload_n 2, 1) := by decide +kernel
theorem dX6_listed_1 : decode cX6_listed 1 = .ok (.invokestatic 130, 3) := by decide +kernel
theorem dX6_listed_4 : decode cX6_listed 4 = .ok (.ifCond .ne 6, 3) := by decide +kernel
theorem dX6_listed_7 : decode cX6_listed 7 = .ok (.ldc 133, 2) := by decide +kernel
theorem dX6_listed_9 : decode cX6_listed 9 = .ok (.ireturn, 1) := by decide +kernel
theorem dX6_listed_10 : decode cX6_listed 10 = .ok (.iload_n 1, 1) := by decide +kernel
theorem dX6_listed_11 : decode cX6_listed 11 = .ok (.ifCond .lt 14, 3) := by decide +kernel
theorem dX6_listed_14 : decode cX6_listed 14 = .ok (.iload_n 1, 1) := by decide +kernel
theorem dX6_listed_15 : decode cX6_listed 15 = .ok (.aload_n 0, 1) := by decide +kernel
theorem dX6_listed_16 : decode cX6_listed 16 = .ok (.getfield 49, 3) := by decide +kernel
theorem dX6_listed_19 : decode cX6_listed 19 = .ok (.getfield 167, 3) := by decide +kernel
theorem dX6_listed_22 : decode cX6_listed 22 = .ok (.if_icmp .lt 6, 3) := by decide +kernel
theorem dX6_listed_25 : decode cX6_listed 25 = .ok (.ldc 170, 2) := by decide +kernel
theorem dX6_listed_27 : decode cX6_listed 27 = .ok (.ireturn, 1) := by decide +kernel
theorem dX6_listed_28 : decode cX6_listed 28 = .ok (.aload_n 0, 1) := by decide +kernel
theorem dX6_listed_29 : decode cX6_listed 29 = .ok (.getfield 49, 3) := by decide +kernel
theorem dX6_listed_32 : decode cX6_listed 32 = .ok (.getfield 171, 3) := by decide +kernel
theorem dX6_listed_35 : decode cX6_listed 35 = .ok (.iload_n 2, 1) := by decide +kernel
theorem dX6_listed_36 : decode cX6_listed 36 = .ok (.aaload, 1) := by decide +kernel
theorem dX6_listed_37 : decode cX6_listed 37 = .ok (.iload_n 1, 1) := by decide +kernel
theorem dX6_listed_38 : decode cX6_listed 38 = .ok (.laload, 1) := by decide +kernel
theorem dX6_listed_39 : decode cX6_listed 39 = .ok (.l2i, 1) := by decide +kernel
theorem dX6_listed_40 : decode cX6_listed 40 = .ok (.ireturn, 1) := by decide +kernel
theorem dX6_find_0 : decode cX6_find 0 = .ok (.iconst 0, 1) := by decide +kernel
theorem dX6_find_1 : decode cX6_find 1 = .ok (.istore_n 2, 1) := by decide +kernel
theorem dX6_find_2 : decode cX6_find 2 = .ok (.iconst 0, 1) := by decide +kernel
theorem dX6_find_3 : decode cX6_find 3 = .ok (.istore_n 3, 1) := by decide +kernel
theorem dX6_find_4 : decode cX6_find 4 = .ok (.iload_n 3, 1) := by decide +kernel
theorem dX6_find_5 : decode cX6_find 5 = .ok (.aload_n 0, 1) := by decide +kernel
theorem dX6_find_6 : decode cX6_find 6 = .ok (.getfield 49, 3) := by decide +kernel
theorem dX6_find_9 : decode cX6_find 9 = .ok (.getfield 167, 3) := by decide +kernel
theorem dX6_find_12 : decode cX6_find 12 = .ok (.if_icmp .ge 29, 3) := by decide +kernel
theorem dX6_find_15 : decode cX6_find 15 = .ok (.aload_n 0, 1) := by decide +kernel
theorem dX6_find_16 : decode cX6_find 16 = .ok (.getfield 49, 3) := by decide +kernel
theorem dX6_find_19 : decode cX6_find 19 = .ok (.getfield 171, 3) := by decide +kernel
theorem dX6_find_22 : decode cX6_find 22 = .ok (.iconst 0, 1) := by decide +kernel
theorem dX6_find_23 : decode cX6_find 23 = .ok (.aaload, 1) := by decide +kernel
theorem dX6_find_24 : decode cX6_find 24 = .ok (.iload_n 3, 1) := by decide +kernel
theorem dX6_find_25 : decode cX6_find 25 = .ok (.laload, 1) := by decide +kernel
theorem dX6_find_26 : decode cX6_find 26 = .ok (.iload_n 1, 1) := by decide +kernel
theorem dX6_find_27 : decode cX6_find 27 = .ok (.i2l, 1) := by decide +kernel
theorem dX6_find_28 : decode cX6_find 28 = .ok (.lcmp, 1) := by decide +kernel
theorem dX6_find_29 : decode cX6_find 29 = .ok (.ifCond .ne 6, 3) := by decide +kernel
theorem dX6_find_32 : decode cX6_find 32 = .ok (.iinc 2 1, 3) := by decide +kernel
theorem dX6_find_35 : decode cX6_find 35 = .ok (.iinc 3 1, 3) := by decide +kernel
theorem dX6_find_38 : decode cX6_find 38 = .ok (.goto (-34), 3) := by decide +kernel
theorem dX6_find_41 : decode cX6_find 41 = .ok (.iload_n 2, 1) := by decide +kernel
theorem dX6_find_42 : decode cX6_find 42 = .ok (.ireturn, 1) := by decide +kernel
theorem dX6_left_0 : decode cX6_left 0 = .ok (.iload_n 1, 1) := by decide +kernel
theorem dX6_left_1 : decode cX6_left 1 = .ok (.ifCond .ge 7, 3) := by decide +kernel
theorem dX6_left_4 : decode cX6_left 4 = .ok (.iconst (-1), 1) := by decide +kernel
theorem dX6_left_5 : decode cX6_left 5 = .ok (.goto 11, 3) := by decide +kernel
theorem dX6_left_8 : decode cX6_left 8 = .ok (.aload_n 0, 1) := by decide +kernel
theorem dX6_left_9 : decode cX6_left 9 = .ok (.getfield 49, 3) := by decide +kernel
theorem dX6_left_12 : decode cX6_left 12 = .ok (.iload_n 1, 1) := by decide +kernel
theorem dX6_left_13 : decode cX6_left 13 = .ok (.invokevirtual 175, 3) := by decide +kernel
theorem dX6_left_16 : decode cX6_left 16 = .ok (.ireturn, 1) := by decide +kernel
theorem dX6_seen_0 : decode cX6_seen 0 = .ok (.aload_n 0, 1) := by decide +kernel
theorem dX6_seen_1 : decode cX6_seen 1 = .ok (.iload_n 1, 1) := by decide +kernel
theorem dX6_seen_2 : decode cX6_seen 2 = .ok (.invokevirtual 106, 3) := by decide +kernel
theorem dX6_seen_5 : decode cX6_seen 5 = .ok (.ifCond .eq 15, 3) := by decide +kernel
theorem dX6_seen_8 : decode cX6_seen 8 = .ok (.aload_n 0, 1) := by decide +kernel
theorem dX6_seen_9 : decode cX6_seen 9 = .ok (.getfield 17, 3) := by decide +kernel
theorem dX6_seen_12 : decode cX6_seen 12 = .ok (.iload_n 1, 1) := by decide +kernel
theorem dX6_seen_13 : decode cX6_seen 13 = .ok (.aaload, 1) := by decide +kernel
theorem dX6_seen_14 : decode cX6_seen 14 = .ok (.getfield 127, 3) := by decide +kernel
theorem dX6_seen_17 : decode cX6_seen 17 = .ok (.goto 4, 3) := by decide +kernel
theorem dX6_seen_20 : decode cX6_seen 20 = .ok (.iconst (-1), 1) := by decide +kernel
theorem dX6_seen_21 : decode cX6_seen 21 = .ok (.ireturn, 1) := by decide +kernel
theorem dX6_chain_0 : decode cX6_chain 0 = .ok (.aload_n 0, 1) := by decide +kernel
theorem dX6_chain_1 : decode cX6_chain 1 = .ok (.iload_n 1, 1) := by decide +kernel
theorem dX6_chain_2 : decode cX6_chain 2 = .ok (.invokevirtual 106, 3) := by decide +kernel
theorem dX6_chain_5 : decode cX6_chain 5 = .ok (.ifCond .eq 22, 3) := by decide +kernel
theorem dX6_chain_8 : decode cX6_chain 8 = .ok (.iload_n 2, 1) := by decide +kernel
theorem dX6_chain_9 : decode cX6_chain 9 = .ok (.invokestatic 109, 3) := by decide +kernel
theorem dX6_chain_12 : decode cX6_chain 12 = .ok (.ifCond .eq 15, 3) := by decide +kernel
theorem dX6_chain_15 : decode cX6_chain 15 = .ok (.iload_n 3, 1) := by decide +kernel
theorem dX6_chain_16 : decode cX6_chain 16 = .ok (.invokestatic 109, 3) := by decide +kernel
theorem dX6_chain_19 : decode cX6_chain 19 = .ok (.ifCond .eq 8, 3) := by decide +kernel
theorem dX6_chain_22 : decode cX6_chain 22 = .ok (.iload_n 2, 1) := by decide +kernel
theorem dX6_chain_23 : decode cX6_chain 23 = .ok (.iload_n 3, 1) := by decide +kernel
theorem dX6_chain_24 : decode cX6_chain 24 = .ok (.if_icmp .ne 6, 3) := by decide +kernel
theorem dX6_chain_27 : decode cX6_chain 27 = .ok (.ldc 133, 2) := by decide +kernel
theorem dX6_chain_29 : decode cX6_chain 29 = .ok (.ireturn, 1) := by decide +kernel
theorem dX6_chain_30 : decode cX6_chain 30 = .ok (.iload 4, 2) := by decide +kernel
theorem dX6_chain_32 : decode cX6_chain 32 = .ok (.bipush (-100), 2) := by decide +kernel
theorem dX6_chain_34 : decode cX6_chain 34 = .ok (.if_icmp .lt 18, 3) := by decide +kernel
theorem dX6_chain_37 : decode cX6_chain 37 = .ok (.iload 4, 2) := by decide +kernel
theorem dX6_chain_39 : decode cX6_chain 39 = .ok (.bipush 100, 2) := by decide +kernel
theorem dX6_chain_41 : decode cX6_chain 41 = .ok (.if_icmp .gt 11, 3) := by decide +kernel
theorem dX6_chain_44 : decode cX6_chain 44 = .ok (.iload 5, 2) := by decide +kernel
theorem dX6_chain_46 : decode cX6_chain 46 = .ok (.invokestatic 130, 3) := by decide +kernel
theorem dX6_chain_49 : decode cX6_chain 49 = .ok (.ifCond .ne 6, 3) := by decide +kernel
theorem dX6_chain_52 : decode cX6_chain 52 = .ok (.ldc 133, 2) := by decide +kernel
theorem dX6_chain_54 : decode cX6_chain 54 = .ok (.ireturn, 1) := by decide +kernel
theorem dX6_chain_55 : decode cX6_chain 55 = .ok (.iload_n 2, 1) := by decide +kernel
theorem dX6_chain_56 : decode cX6_chain 56 = .ok (.iload_n 3, 1) := by decide +kernel
theorem dX6_chain_57 : decode cX6_chain 57 = .ok (.invokestatic 178, 3) := by decide +kernel
theorem dX6_chain_60 : decode cX6_chain 60 = .ok (.istore 6, 2) := by decide +kernel
theorem dX6_chain_62 : decode cX6_chain 62 = .ok (.bipush 6, 2) := by decide +kernel
theorem dX6_chain_64 : decode cX6_chain 64 = .ok (.iload_n 2, 1) := by decide +kernel
theorem dX6_chain_65 : decode cX6_chain 65 = .ok (.isub, 1) := by decide +kernel
theorem dX6_chain_66 : decode cX6_chain 66 = .ok (.iload_n 3, 1) := by decide +kernel
theorem dX6_chain_67 : decode cX6_chain 67 = .ok (.isub, 1) := by decide +kernel
theorem dX6_chain_68 : decode cX6_chain 68 = .ok (.iload 6, 2) := by decide +kernel
theorem dX6_chain_70 : decode cX6_chain 70 = .ok (.isub, 1) := by decide +kernel
theorem dX6_chain_71 : decode cX6_chain 71 = .ok (.istore 7, 2) := by decide +kernel
theorem dX6_chain_73 : decode cX6_chain 73 = .ok (.aload_n 0, 1) := by decide +kernel
theorem dX6_chain_74 : decode cX6_chain 74 = .ok (.getfield 28, 3) := by decide +kernel
theorem dX6_chain_77 : decode cX6_chain 77 = .ok (.aload_n 0, 1) := by decide +kernel
theorem dX6_chain_78 : decode cX6_chain 78 = .ok (.getfield 17, 3) := by decide +kernel
theorem dX6_chain_81 : decode cX6_chain 81 = .ok (.iload_n 1, 1) := by decide +kernel
theorem dX6_chain_82 : decode cX6_chain 82 = .ok (.aaload, 1) := by decide +kernel
theorem dX6_chain_83 : decode cX6_chain 83 = .ok (.getfield 112, 3) := by decide +kernel
theorem dX6_chain_86 : decode cX6_chain 86 = .ok (.invokevirtual 115, 3) := by decide +kernel
theorem dX6_chain_89 : decode cX6_chain 89 = .ok (.aload_n 0, 1) := by decide +kernel
theorem dX6_chain_90 : decode cX6_chain 90 = .ok (.getfield 28, 3) := by decide +kernel
theorem dX6_chain_93 : decode cX6_chain 93 = .ok (.iload 6, 2) := by decide +kernel
theorem dX6_chain_95 : decode cX6_chain 95 = .ok (.iload 7, 2) := by decide +kernel
theorem dX6_chain_97 : decode cX6_chain 97 = .ok (.iload 4, 2) := by decide +kernel
theorem dX6_chain_99 : decode cX6_chain 99 = .ok (.invokevirtual 181, 3) := by decide +kernel
theorem dX6_chain_102 : decode cX6_chain 102 = .ok (.ifCond .ne 6, 3) := by decide +kernel
theorem dX6_chain_105 : decode cX6_chain 105 = .ok (.ldc 185, 2) := by decide +kernel
theorem dX6_chain_107 : decode cX6_chain 107 = .ok (.ireturn, 1) := by decide +kernel
theorem dX6_chain_108 : decode cX6_chain 108 = .ok (.aload_n 0, 1) := by decide +kernel
theorem dX6_chain_109 : decode cX6_chain 109 = .ok (.getfield 28, 3) := by decide +kernel
theorem dX6_chain_112 : decode cX6_chain 112 = .ok (.iload 4, 2) := by decide +kernel
theorem dX6_chain_114 : decode cX6_chain 114 = .ok (.iconst 1, 1) := by decide +kernel
theorem dX6_chain_115 : decode cX6_chain 115 = .ok (.iand, 1) := by decide +kernel
theorem dX6_chain_116 : decode cX6_chain 116 = .ok (.ifCond .ne 8, 3) := by decide +kernel
theorem dX6_chain_119 : decode cX6_chain 119 = .ok (.iload 6, 2) := by decide +kernel
theorem dX6_chain_121 : decode cX6_chain 121 = .ok (.goto 5, 3) := by decide +kernel
theorem dX6_chain_124 : decode cX6_chain 124 = .ok (.iload 7, 2) := by decide +kernel
theorem dX6_chain_126 : decode cX6_chain 126 = .ok (.iload 5, 2) := by decide +kernel
theorem dX6_chain_128 : decode cX6_chain 128 = .ok (.invokevirtual 134, 3) := by decide +kernel
theorem dX6_chain_131 : decode cX6_chain 131 = .ok (.l2i, 1) := by decide +kernel
theorem dX6_chain_132 : decode cX6_chain 132 = .ok (.ireturn, 1) := by decide +kernel
theorem dX6_count_0 : decode cX6_count 0 = .ok (.iload_n 1, 1) := by decide +kernel
theorem dX6_count_1 : decode cX6_count 1 = .ok (.tableswitch 48 0 2 #[27, 32, 40], 27) := by decide +kernel
theorem dX6_count_28 : decode cX6_count 28 = .ok (.aload_n 0, 1) := by decide +kernel
theorem dX6_count_29 : decode cX6_count 29 = .ok (.getfield 21, 3) := by decide +kernel
theorem dX6_count_32 : decode cX6_count 32 = .ok (.ireturn, 1) := by decide +kernel
theorem dX6_count_33 : decode cX6_count 33 = .ok (.aload_n 0, 1) := by decide +kernel
theorem dX6_count_34 : decode cX6_count 34 = .ok (.getfield 49, 3) := by decide +kernel
theorem dX6_count_37 : decode cX6_count 37 = .ok (.getfield 167, 3) := by decide +kernel
theorem dX6_count_40 : decode cX6_count 40 = .ok (.ireturn, 1) := by decide +kernel
theorem dX6_count_41 : decode cX6_count 41 = .ok (.aload_n 0, 1) := by decide +kernel
theorem dX6_count_42 : decode cX6_count 42 = .ok (.getfield 49, 3) := by decide +kernel
theorem dX6_count_45 : decode cX6_count 45 = .ok (.getfield 186, 3) := by decide +kernel
theorem dX6_count_48 : decode cX6_count 48 = .ok (.ireturn, 1) := by decide +kernel
theorem dX6_count_49 : decode cX6_count 49 = .ok (.iconst (-1), 1) := by decide +kernel
theorem dX6_count_50 : decode cX6_count 50 = .ok (.ireturn, 1) := by decide +kernel
theorem dX6_isBag_0 : decode cX6_isBag 0 = .ok (.iload_n 0, 1) := by decide +kernel
theorem dX6_isBag_1 : decode cX6_isBag 1 = .ok (.ifCond .lt 13, 3) := by decide +kernel
theorem dX6_isBag_4 : decode cX6_isBag 4 = .ok (.iload_n 0, 1) := by decide +kernel
theorem dX6_isBag_5 : decode cX6_isBag 5 = .ok (.bipush 6, 2) := by decide +kernel
theorem dX6_isBag_7 : decode cX6_isBag 7 = .ok (.if_icmp .ge 7, 3) := by decide +kernel
theorem dX6_isBag_10 : decode cX6_isBag 10 = .ok (.iconst 1, 1) := by decide +kernel
theorem dX6_isBag_11 : decode cX6_isBag 11 = .ok (.goto 4, 3) := by decide +kernel
theorem dX6_isBag_14 : decode cX6_isBag 14 = .ok (.iconst 0, 1) := by decide +kernel
theorem dX6_isBag_15 : decode cX6_isBag 15 = .ok (.ireturn, 1) := by decide +kernel
theorem dX6_isQuad_0 : decode cX6_isQuad 0 = .ok (.iload_n 1, 1) := by decide +kernel
theorem dX6_isQuad_1 : decode cX6_isQuad 1 = .ok (.ifCond .lt 15, 3) := by decide +kernel
theorem dX6_isQuad_4 : decode cX6_isQuad 4 = .ok (.iload_n 1, 1) := by decide +kernel
theorem dX6_isQuad_5 : decode cX6_isQuad 5 = .ok (.aload_n 0, 1) := by decide +kernel
theorem dX6_isQuad_6 : decode cX6_isQuad 6 = .ok (.getfield 21, 3) := by decide +kernel
theorem dX6_isQuad_9 : decode cX6_isQuad 9 = .ok (.if_icmp .ge 7, 3) := by decide +kernel
theorem dX6_isQuad_12 : decode cX6_isQuad 12 = .ok (.iconst 1, 1) := by decide +kernel
theorem dX6_isQuad_13 : decode cX6_isQuad 13 = .ok (.goto 4, 3) := by decide +kernel
theorem dX6_isQuad_16 : decode cX6_isQuad 16 = .ok (.iconst 0, 1) := by decide +kernel
theorem dX6_isQuad_17 : decode cX6_isQuad 17 = .ok (.ireturn, 1) := by decide +kernel
theorem dX6_isCoin_0 : decode cX6_isCoin 0 = .ok (.iload_n 0, 1) := by decide +kernel
theorem dX6_isCoin_1 : decode cX6_isCoin 1 = .ok (.ifCond .lt 12, 3) := by decide +kernel
theorem dX6_isCoin_4 : decode cX6_isCoin 4 = .ok (.iload_n 0, 1) := by decide +kernel
theorem dX6_isCoin_5 : decode cX6_isCoin 5 = .ok (.iconst 4, 1) := by decide +kernel
theorem dX6_isCoin_6 : decode cX6_isCoin 6 = .ok (.if_icmp .ge 7, 3) := by decide +kernel
theorem dX6_isCoin_9 : decode cX6_isCoin 9 = .ok (.iconst 1, 1) := by decide +kernel
theorem dX6_isCoin_10 : decode cX6_isCoin 10 = .ok (.goto 4, 3) := by decide +kernel
theorem dX6_isCoin_13 : decode cX6_isCoin 13 = .ok (.iconst 0, 1) := by decide +kernel
theorem dX6_isCoin_14 : decode cX6_isCoin 14 = .ok (.ireturn, 1) := by decide +kernel
theorem dX6_isWhat_0 : decode cX6_isWhat 0 = .ok (.iload_n 0, 1) := by decide +kernel
theorem dX6_isWhat_1 : decode cX6_isWhat 1 = .ok (.ifCond .lt 12, 3) := by decide +kernel
theorem dX6_isWhat_4 : decode cX6_isWhat 4 = .ok (.iload_n 0, 1) := by decide +kernel
theorem dX6_isWhat_5 : decode cX6_isWhat 5 = .ok (.iconst 2, 1) := by decide +kernel
theorem dX6_isWhat_6 : decode cX6_isWhat 6 = .ok (.if_icmp .gt 7, 3) := by decide +kernel
theorem dX6_isWhat_9 : decode cX6_isWhat 9 = .ok (.iconst 1, 1) := by decide +kernel
theorem dX6_isWhat_10 : decode cX6_isWhat 10 = .ok (.goto 4, 3) := by decide +kernel
theorem dX6_isWhat_13 : decode cX6_isWhat 13 = .ok (.iconst 0, 1) := by decide +kernel
theorem dX6_isWhat_14 : decode cX6_isWhat 14 = .ok (.ireturn, 1) := by decide +kernel
theorem dX6_refusalOfPlaces_0 : decode cX6_refusalOfPlaces 0 = .ok (.iload_n 1, 1) := by decide +kernel
theorem dX6_refusalOfPlaces_1 : decode cX6_refusalOfPlaces 1 = .ok (.invokestatic 58, 3) := by decide +kernel
theorem dX6_refusalOfPlaces_4 : decode cX6_refusalOfPlaces 4 = .ok (.ifCond .ne 5, 3) := by decide +kernel
theorem dX6_refusalOfPlaces_7 : decode cX6_refusalOfPlaces 7 = .ok (.iconst (-1), 1) := by decide +kernel
theorem dX6_refusalOfPlaces_8 : decode cX6_refusalOfPlaces 8 = .ok (.ireturn, 1) := by decide +kernel
theorem dX6_refusalOfPlaces_9 : decode cX6_refusalOfPlaces 9 = .ok (.aload_n 0, 1) := by decide +kernel
theorem dX6_refusalOfPlaces_10 : decode cX6_refusalOfPlaces 10 = .ok (.getfield 11, 3) := by decide +kernel
theorem dX6_refusalOfPlaces_13 : decode cX6_refusalOfPlaces 13 = .ok (.iload_n 1, 1) := by decide +kernel
theorem dX6_refusalOfPlaces_14 : decode cX6_refusalOfPlaces 14 = .ok (.aaload, 1) := by decide +kernel
theorem dX6_refusalOfPlaces_15 : decode cX6_refusalOfPlaces 15 = .ok (.getfield 74, 3) := by decide +kernel
theorem dX6_refusalOfPlaces_18 : decode cX6_refusalOfPlaces 18 = .ok (.iconst (-1), 1) := by decide +kernel
theorem dX6_refusalOfPlaces_19 : decode cX6_refusalOfPlaces 19 = .ok (.if_icmp .ne 6, 3) := by decide +kernel
theorem dX6_refusalOfPlaces_22 : decode cX6_refusalOfPlaces 22 = .ok (.bipush (-11), 2) := by decide +kernel
theorem dX6_refusalOfPlaces_24 : decode cX6_refusalOfPlaces 24 = .ok (.ireturn, 1) := by decide +kernel
theorem dX6_refusalOfPlaces_25 : decode cX6_refusalOfPlaces 25 = .ok (.aload_n 0, 1) := by decide +kernel
theorem dX6_refusalOfPlaces_26 : decode cX6_refusalOfPlaces 26 = .ok (.getfield 11, 3) := by decide +kernel
theorem dX6_refusalOfPlaces_29 : decode cX6_refusalOfPlaces 29 = .ok (.iload_n 1, 1) := by decide +kernel
theorem dX6_refusalOfPlaces_30 : decode cX6_refusalOfPlaces 30 = .ok (.aaload, 1) := by decide +kernel
theorem dX6_refusalOfPlaces_31 : decode cX6_refusalOfPlaces 31 = .ok (.iload_n 2, 1) := by decide +kernel
theorem dX6_refusalOfPlaces_32 : decode cX6_refusalOfPlaces 32 = .ok (.iload_n 3, 1) := by decide +kernel
theorem dX6_refusalOfPlaces_33 : decode cX6_refusalOfPlaces 33 = .ok (.invokevirtual 77, 3) := by decide +kernel
theorem dX6_refusalOfPlaces_36 : decode cX6_refusalOfPlaces 36 = .ok (.ifCond .eq 7, 3) := by decide +kernel
theorem dX6_refusalOfPlaces_39 : decode cX6_refusalOfPlaces 39 = .ok (.iconst 0, 1) := by decide +kernel
theorem dX6_refusalOfPlaces_40 : decode cX6_refusalOfPlaces 40 = .ok (.goto 5, 3) := by decide +kernel
theorem dX6_refusalOfPlaces_43 : decode cX6_refusalOfPlaces 43 = .ok (.bipush (-12), 2) := by decide +kernel
theorem dX6_refusalOfPlaces_45 : decode cX6_refusalOfPlaces 45 = .ok (.ireturn, 1) := by decide +kernel
theorem dX6_keepDesk_0 : decode cX6_keepDesk 0 = .ok (.aload_n 0, 1) := by decide +kernel
theorem dX6_keepDesk_1 : decode cX6_keepDesk 1 = .ok (.getfield 17, 3) := by decide +kernel
theorem dX6_keepDesk_4 : decode cX6_keepDesk 4 = .ok (.aload_n 0, 1) := by decide +kernel
theorem dX6_keepDesk_5 : decode cX6_keepDesk 5 = .ok (.getfield 21, 3) := by decide +kernel
theorem dX6_keepDesk_8 : decode cX6_keepDesk 8 = .ok (.aaload, 1) := by decide +kernel
theorem dX6_keepDesk_9 : decode cX6_keepDesk 9 = .ok (.aload_n 0, 1) := by decide +kernel
theorem dX6_keepDesk_10 : decode cX6_keepDesk 10 = .ok (.getfield 28, 3) := by decide +kernel
theorem dX6_keepDesk_13 : decode cX6_keepDesk 13 = .ok (.iload_n 1, 1) := by decide +kernel
theorem dX6_keepDesk_14 : decode cX6_keepDesk 14 = .ok (.iload_n 2, 1) := by decide +kernel
theorem dX6_keepDesk_15 : decode cX6_keepDesk 15 = .ok (.invokevirtual 189, 3) := by decide +kernel
theorem dX6_keepDesk_18 : decode cX6_keepDesk 18 = .ok (.aload_n 0, 1) := by decide +kernel
theorem dX6_keepDesk_19 : decode cX6_keepDesk 19 = .ok (.dup, 1) := by decide +kernel
theorem dX6_keepDesk_20 : decode cX6_keepDesk 20 = .ok (.getfield 21, 3) := by decide +kernel
theorem dX6_keepDesk_23 : decode cX6_keepDesk 23 = .ok (.iconst 1, 1) := by decide +kernel
theorem dX6_keepDesk_24 : decode cX6_keepDesk 24 = .ok (.iadd, 1) := by decide +kernel
theorem dX6_keepDesk_25 : decode cX6_keepDesk 25 = .ok (.putfield 21, 3) := by decide +kernel
theorem dX6_keepDesk_28 : decode cX6_keepDesk 28 = .ok (.aload_n 0, 1) := by decide +kernel
theorem dX6_keepDesk_29 : decode cX6_keepDesk 29 = .ok (.getfield 21, 3) := by decide +kernel
theorem dX6_keepDesk_32 : decode cX6_keepDesk 32 = .ok (.iconst 1, 1) := by decide +kernel
theorem dX6_keepDesk_33 : decode cX6_keepDesk 33 = .ok (.isub, 1) := by decide +kernel
theorem dX6_keepDesk_34 : decode cX6_keepDesk 34 = .ok (.ireturn, 1) := by decide +kernel
theorem dX6_firstBut_0 : decode cX6_firstBut 0 = .ok (.iconst 0, 1) := by decide +kernel
theorem dX6_firstBut_1 : decode cX6_firstBut 1 = .ok (.istore_n 2, 1) := by decide +kernel
theorem dX6_firstBut_2 : decode cX6_firstBut 2 = .ok (.iload_n 2, 1) := by decide +kernel
theorem dX6_firstBut_3 : decode cX6_firstBut 3 = .ok (.iconst 2, 1) := by decide +kernel
theorem dX6_firstBut_4 : decode cX6_firstBut 4 = .ok (.if_icmp .ge 21, 3) := by decide +kernel
theorem dX6_firstBut_7 : decode cX6_firstBut 7 = .ok (.iload_n 2, 1) := by decide +kernel
theorem dX6_firstBut_8 : decode cX6_firstBut 8 = .ok (.iload_n 0, 1) := by decide +kernel
theorem dX6_firstBut_9 : decode cX6_firstBut 9 = .ok (.if_icmp .eq 10, 3) := by decide +kernel
theorem dX6_firstBut_12 : decode cX6_firstBut 12 = .ok (.iload_n 2, 1) := by decide +kernel
theorem dX6_firstBut_13 : decode cX6_firstBut 13 = .ok (.iload_n 1, 1) := by decide +kernel
theorem dX6_firstBut_14 : decode cX6_firstBut 14 = .ok (.if_icmp .eq 5, 3) := by decide +kernel
theorem dX6_firstBut_17 : decode cX6_firstBut 17 = .ok (.iload_n 2, 1) := by decide +kernel
theorem dX6_firstBut_18 : decode cX6_firstBut 18 = .ok (.ireturn, 1) := by decide +kernel
theorem dX6_firstBut_19 : decode cX6_firstBut 19 = .ok (.iinc 2 1, 3) := by decide +kernel
theorem dX6_firstBut_22 : decode cX6_firstBut 22 = .ok (.goto (-20), 3) := by decide +kernel
theorem dX6_firstBut_25 : decode cX6_firstBut 25 = .ok (.iconst 2, 1) := by decide +kernel
theorem dX6_firstBut_26 : decode cX6_firstBut 26 = .ok (.ireturn, 1) := by decide +kernel
theorem dL_law_0 : decode cL_law 0 = .ok (.new 7, 3) := by decide +kernel
theorem dL_law_3 : decode cL_law 3 = .ok (.dup, 1) := by decide +kernel
theorem dL_law_4 : decode cL_law 4 = .ok (.invokespecial 9, 3) := by decide +kernel
theorem dL_law_7 : decode cL_law 7 = .ok (.astore_n 1, 1) := by decide +kernel
theorem dL_law_8 : decode cL_law 8 = .ok (.new 10, 3) := by decide +kernel
theorem dL_law_11 : decode cL_law 11 = .ok (.dup, 1) := by decide +kernel
theorem dL_law_12 : decode cL_law 12 = .ok (.invokespecial 12, 3) := by decide +kernel
theorem dL_law_15 : decode cL_law 15 = .ok (.astore_n 2, 1) := by decide +kernel
theorem dL_law_16 : decode cL_law 16 = .ok (.iconst 0, 1) := by decide +kernel
theorem dL_law_17 : decode cL_law 17 = .ok (.istore_n 3, 1) := by decide +kernel
theorem dL_law_18 : decode cL_law 18 = .ok (.iload_n 3, 1) := by decide +kernel
theorem dL_law_19 : decode cL_law 19 = .ok (.aload_n 0, 1) := by decide +kernel
theorem dL_law_20 : decode cL_law 20 = .ok (.arraylength, 1) := by decide +kernel
theorem dL_law_21 : decode cL_law 21 = .ok (.bipush 6, 2) := by decide +kernel
theorem dL_law_23 : decode cL_law 23 = .ok (.isub, 1) := by decide +kernel
theorem dL_law_24 : decode cL_law 24 = .ok (.if_icmp .gt 900, 3) := by decide +kernel
theorem dL_law_27 : decode cL_law 27 = .ok (.aload_n 0, 1) := by decide +kernel
theorem dL_law_28 : decode cL_law 28 = .ok (.iload_n 3, 1) := by decide +kernel
theorem dL_law_29 : decode cL_law 29 = .ok (.iaload, 1) := by decide +kernel
theorem dL_law_30 : decode cL_law 30 = .ok (.bipush 31, 2) := by decide +kernel
theorem dL_law_32 : decode cL_law 32 = .ok (.iand, 1) := by decide +kernel
theorem dL_law_33 : decode cL_law 33 = .ok (.tableswitch 885 0 19 #[95, 138, 211, 274, 347, 380, 413, 456, 479, 502, 535, 578, 611, 664, 697, 730, 753, 776, 799, 862], 95) := by decide +kernel
theorem dL_law_128 : decode cL_law 128 = .ok (.aload_n 1, 1) := by decide +kernel
theorem dL_law_129 : decode cL_law 129 = .ok (.aload_n 0, 1) := by decide +kernel
theorem dL_law_130 : decode cL_law 130 = .ok (.iload_n 3, 1) := by decide +kernel
theorem dL_law_131 : decode cL_law 131 = .ok (.iconst 1, 1) := by decide +kernel
theorem dL_law_132 : decode cL_law 132 = .ok (.iadd, 1) := by decide +kernel
theorem dL_law_133 : decode cL_law 133 = .ok (.iaload, 1) := by decide +kernel
theorem dL_law_134 : decode cL_law 134 = .ok (.aload_n 0, 1) := by decide +kernel
theorem dL_law_135 : decode cL_law 135 = .ok (.iload_n 3, 1) := by decide +kernel
theorem dL_law_136 : decode cL_law 136 = .ok (.iconst 2, 1) := by decide +kernel
theorem dL_law_137 : decode cL_law 137 = .ok (.iadd, 1) := by decide +kernel
theorem dL_law_138 : decode cL_law 138 = .ok (.iaload, 1) := by decide +kernel
theorem dL_law_139 : decode cL_law 139 = .ok (.aload_n 0, 1) := by decide +kernel
theorem dL_law_140 : decode cL_law 140 = .ok (.iload_n 3, 1) := by decide +kernel
theorem dL_law_141 : decode cL_law 141 = .ok (.iconst 3, 1) := by decide +kernel
theorem dL_law_142 : decode cL_law 142 = .ok (.iadd, 1) := by decide +kernel
theorem dL_law_143 : decode cL_law 143 = .ok (.iaload, 1) := by decide +kernel
theorem dL_law_144 : decode cL_law 144 = .ok (.invokevirtual 13, 3) := by decide +kernel
theorem dL_law_147 : decode cL_law 147 = .ok (.aload_n 2, 1) := by decide +kernel
theorem dL_law_148 : decode cL_law 148 = .ok (.aload_n 0, 1) := by decide +kernel
theorem dL_law_149 : decode cL_law 149 = .ok (.iload_n 3, 1) := by decide +kernel
theorem dL_law_150 : decode cL_law 150 = .ok (.iconst 1, 1) := by decide +kernel
theorem dL_law_151 : decode cL_law 151 = .ok (.iadd, 1) := by decide +kernel
theorem dL_law_152 : decode cL_law 152 = .ok (.iaload, 1) := by decide +kernel
theorem dL_law_153 : decode cL_law 153 = .ok (.aload_n 0, 1) := by decide +kernel
theorem dL_law_154 : decode cL_law 154 = .ok (.iload_n 3, 1) := by decide +kernel
theorem dL_law_155 : decode cL_law 155 = .ok (.iconst 2, 1) := by decide +kernel
theorem dL_law_156 : decode cL_law 156 = .ok (.iadd, 1) := by decide +kernel
theorem dL_law_157 : decode cL_law 157 = .ok (.iaload, 1) := by decide +kernel
theorem dL_law_158 : decode cL_law 158 = .ok (.aload_n 0, 1) := by decide +kernel
theorem dL_law_159 : decode cL_law 159 = .ok (.iload_n 3, 1) := by decide +kernel
theorem dL_law_160 : decode cL_law 160 = .ok (.iconst 3, 1) := by decide +kernel
theorem dL_law_161 : decode cL_law 161 = .ok (.iadd, 1) := by decide +kernel
theorem dL_law_162 : decode cL_law 162 = .ok (.iaload, 1) := by decide +kernel
theorem dL_law_163 : decode cL_law 163 = .ok (.invokevirtual 17, 3) := by decide +kernel
theorem dL_law_166 : decode cL_law 166 = .ok (.if_icmp .eq 752, 3) := by decide +kernel
theorem dL_law_169 : decode cL_law 169 = .ok (.iconst 0, 1) := by decide +kernel
theorem dL_law_170 : decode cL_law 170 = .ok (.ireturn, 1) := by decide +kernel
theorem dL_law_171 : decode cL_law 171 = .ok (.aload_n 1, 1) := by decide +kernel
theorem dL_law_172 : decode cL_law 172 = .ok (.aload_n 0, 1) := by decide +kernel
theorem dL_law_173 : decode cL_law 173 = .ok (.iload_n 3, 1) := by decide +kernel
theorem dL_law_174 : decode cL_law 174 = .ok (.iconst 1, 1) := by decide +kernel
theorem dL_law_175 : decode cL_law 175 = .ok (.iadd, 1) := by decide +kernel
theorem dL_law_176 : decode cL_law 176 = .ok (.iaload, 1) := by decide +kernel
theorem dL_law_177 : decode cL_law 177 = .ok (.aload_n 0, 1) := by decide +kernel
theorem dL_law_178 : decode cL_law 178 = .ok (.iload_n 3, 1) := by decide +kernel
theorem dL_law_179 : decode cL_law 179 = .ok (.iconst 2, 1) := by decide +kernel
theorem dL_law_180 : decode cL_law 180 = .ok (.iadd, 1) := by decide +kernel
theorem dL_law_181 : decode cL_law 181 = .ok (.iaload, 1) := by decide +kernel
theorem dL_law_182 : decode cL_law 182 = .ok (.aload_n 0, 1) := by decide +kernel
theorem dL_law_183 : decode cL_law 183 = .ok (.iload_n 3, 1) := by decide +kernel
theorem dL_law_184 : decode cL_law 184 = .ok (.iconst 3, 1) := by decide +kernel
theorem dL_law_185 : decode cL_law 185 = .ok (.iadd, 1) := by decide +kernel
theorem dL_law_186 : decode cL_law 186 = .ok (.iaload, 1) := by decide +kernel
theorem dL_law_187 : decode cL_law 187 = .ok (.i2l, 1) := by decide +kernel
theorem dL_law_188 : decode cL_law 188 = .ok (.bipush 32, 2) := by decide +kernel
theorem dL_law_190 : decode cL_law 190 = .ok (.lshl, 1) := by decide +kernel
theorem dL_law_191 : decode cL_law 191 = .ok (.aload_n 0, 1) := by decide +kernel
theorem dL_law_192 : decode cL_law 192 = .ok (.iload_n 3, 1) := by decide +kernel
theorem dL_law_193 : decode cL_law 193 = .ok (.iconst 4, 1) := by decide +kernel
theorem dL_law_194 : decode cL_law 194 = .ok (.iadd, 1) := by decide +kernel
theorem dL_law_195 : decode cL_law 195 = .ok (.iaload, 1) := by decide +kernel
theorem dL_law_196 : decode cL_law 196 = .ok (.i2l, 1) := by decide +kernel
theorem dL_law_197 : decode cL_law 197 = .ok (.ldc2_w 18, 3) := by decide +kernel
theorem dL_law_200 : decode cL_law 200 = .ok (.land, 1) := by decide +kernel
theorem dL_law_201 : decode cL_law 201 = .ok (.lor, 1) := by decide +kernel
theorem dL_law_202 : decode cL_law 202 = .ok (.invokevirtual 20, 3) := by decide +kernel
theorem dL_law_205 : decode cL_law 205 = .ok (.aload_n 2, 1) := by decide +kernel
theorem dL_law_206 : decode cL_law 206 = .ok (.aload_n 0, 1) := by decide +kernel
theorem dL_law_207 : decode cL_law 207 = .ok (.iload_n 3, 1) := by decide +kernel
theorem dL_law_208 : decode cL_law 208 = .ok (.iconst 1, 1) := by decide +kernel
theorem dL_law_209 : decode cL_law 209 = .ok (.iadd, 1) := by decide +kernel
theorem dL_law_210 : decode cL_law 210 = .ok (.iaload, 1) := by decide +kernel
theorem dL_law_211 : decode cL_law 211 = .ok (.aload_n 0, 1) := by decide +kernel
theorem dL_law_212 : decode cL_law 212 = .ok (.iload_n 3, 1) := by decide +kernel
theorem dL_law_213 : decode cL_law 213 = .ok (.iconst 2, 1) := by decide +kernel
theorem dL_law_214 : decode cL_law 214 = .ok (.iadd, 1) := by decide +kernel
theorem dL_law_215 : decode cL_law 215 = .ok (.iaload, 1) := by decide +kernel
theorem dL_law_216 : decode cL_law 216 = .ok (.aload_n 0, 1) := by decide +kernel
theorem dL_law_217 : decode cL_law 217 = .ok (.iload_n 3, 1) := by decide +kernel
theorem dL_law_218 : decode cL_law 218 = .ok (.iconst 3, 1) := by decide +kernel
theorem dL_law_219 : decode cL_law 219 = .ok (.iadd, 1) := by decide +kernel
theorem dL_law_220 : decode cL_law 220 = .ok (.iaload, 1) := by decide +kernel
theorem dL_law_221 : decode cL_law 221 = .ok (.i2l, 1) := by decide +kernel
theorem dL_law_222 : decode cL_law 222 = .ok (.bipush 32, 2) := by decide +kernel
theorem dL_law_224 : decode cL_law 224 = .ok (.lshl, 1) := by decide +kernel
theorem dL_law_225 : decode cL_law 225 = .ok (.aload_n 0, 1) := by decide +kernel
theorem dL_law_226 : decode cL_law 226 = .ok (.iload_n 3, 1) := by decide +kernel
theorem dL_law_227 : decode cL_law 227 = .ok (.iconst 4, 1) := by decide +kernel
theorem dL_law_228 : decode cL_law 228 = .ok (.iadd, 1) := by decide +kernel
theorem dL_law_229 : decode cL_law 229 = .ok (.iaload, 1) := by decide +kernel
theorem dL_law_230 : decode cL_law 230 = .ok (.i2l, 1) := by decide +kernel
theorem dL_law_231 : decode cL_law 231 = .ok (.ldc2_w 18, 3) := by decide +kernel
theorem dL_law_234 : decode cL_law 234 = .ok (.land, 1) := by decide +kernel
theorem dL_law_235 : decode cL_law 235 = .ok (.lor, 1) := by decide +kernel
theorem dL_law_236 : decode cL_law 236 = .ok (.invokevirtual 24, 3) := by decide +kernel
theorem dL_law_239 : decode cL_law 239 = .ok (.if_icmp .eq 679, 3) := by decide +kernel
theorem dL_law_242 : decode cL_law 242 = .ok (.iconst 0, 1) := by decide +kernel
theorem dL_law_243 : decode cL_law 243 = .ok (.ireturn, 1) := by decide +kernel
theorem dL_law_244 : decode cL_law 244 = .ok (.aload_n 1, 1) := by decide +kernel
theorem dL_law_245 : decode cL_law 245 = .ok (.aload_n 0, 1) := by decide +kernel
theorem dL_law_246 : decode cL_law 246 = .ok (.iload_n 3, 1) := by decide +kernel
theorem dL_law_247 : decode cL_law 247 = .ok (.iconst 1, 1) := by decide +kernel
theorem dL_law_248 : decode cL_law 248 = .ok (.iadd, 1) := by decide +kernel
theorem dL_law_249 : decode cL_law 249 = .ok (.iaload, 1) := by decide +kernel
theorem dL_law_250 : decode cL_law 250 = .ok (.aload_n 0, 1) := by decide +kernel
theorem dL_law_251 : decode cL_law 251 = .ok (.iload_n 3, 1) := by decide +kernel
theorem dL_law_252 : decode cL_law 252 = .ok (.iconst 2, 1) := by decide +kernel
theorem dL_law_253 : decode cL_law 253 = .ok (.iadd, 1) := by decide +kernel
theorem dL_law_254 : decode cL_law 254 = .ok (.iaload, 1) := by decide +kernel
theorem dL_law_255 : decode cL_law 255 = .ok (.aload_n 0, 1) := by decide +kernel
theorem dL_law_256 : decode cL_law 256 = .ok (.iload_n 3, 1) := by decide +kernel
theorem dL_law_257 : decode cL_law 257 = .ok (.iconst 3, 1) := by decide +kernel
theorem dL_law_258 : decode cL_law 258 = .ok (.iadd, 1) := by decide +kernel
theorem dL_law_259 : decode cL_law 259 = .ok (.iaload, 1) := by decide +kernel
theorem dL_law_260 : decode cL_law 260 = .ok (.aload_n 0, 1) := by decide +kernel
theorem dL_law_261 : decode cL_law 261 = .ok (.iload_n 3, 1) := by decide +kernel
theorem dL_law_262 : decode cL_law 262 = .ok (.iconst 4, 1) := by decide +kernel
theorem dL_law_263 : decode cL_law 263 = .ok (.iadd, 1) := by decide +kernel
theorem dL_law_264 : decode cL_law 264 = .ok (.iaload, 1) := by decide +kernel
theorem dL_law_265 : decode cL_law 265 = .ok (.aload_n 0, 1) := by decide +kernel
theorem dL_law_266 : decode cL_law 266 = .ok (.iload_n 3, 1) := by decide +kernel
theorem dL_law_267 : decode cL_law 267 = .ok (.iconst 5, 1) := by decide +kernel
theorem dL_law_268 : decode cL_law 268 = .ok (.iadd, 1) := by decide +kernel
theorem dL_law_269 : decode cL_law 269 = .ok (.iaload, 1) := by decide +kernel
theorem dL_law_270 : decode cL_law 270 = .ok (.invokevirtual 25, 3) := by decide +kernel
theorem dL_law_273 : decode cL_law 273 = .ok (.aload_n 2, 1) := by decide +kernel
theorem dL_law_274 : decode cL_law 274 = .ok (.aload_n 0, 1) := by decide +kernel
theorem dL_law_275 : decode cL_law 275 = .ok (.iload_n 3, 1) := by decide +kernel
theorem dL_law_276 : decode cL_law 276 = .ok (.iconst 1, 1) := by decide +kernel
theorem dL_law_277 : decode cL_law 277 = .ok (.iadd, 1) := by decide +kernel
theorem dL_law_278 : decode cL_law 278 = .ok (.iaload, 1) := by decide +kernel
theorem dL_law_279 : decode cL_law 279 = .ok (.aload_n 0, 1) := by decide +kernel
theorem dL_law_280 : decode cL_law 280 = .ok (.iload_n 3, 1) := by decide +kernel
theorem dL_law_281 : decode cL_law 281 = .ok (.iconst 2, 1) := by decide +kernel
theorem dL_law_282 : decode cL_law 282 = .ok (.iadd, 1) := by decide +kernel
theorem dL_law_283 : decode cL_law 283 = .ok (.iaload, 1) := by decide +kernel
theorem dL_law_284 : decode cL_law 284 = .ok (.aload_n 0, 1) := by decide +kernel
theorem dL_law_285 : decode cL_law 285 = .ok (.iload_n 3, 1) := by decide +kernel
theorem dL_law_286 : decode cL_law 286 = .ok (.iconst 3, 1) := by decide +kernel
theorem dL_law_287 : decode cL_law 287 = .ok (.iadd, 1) := by decide +kernel
theorem dL_law_288 : decode cL_law 288 = .ok (.iaload, 1) := by decide +kernel
theorem dL_law_289 : decode cL_law 289 = .ok (.aload_n 0, 1) := by decide +kernel
theorem dL_law_290 : decode cL_law 290 = .ok (.iload_n 3, 1) := by decide +kernel
theorem dL_law_291 : decode cL_law 291 = .ok (.iconst 4, 1) := by decide +kernel
theorem dL_law_292 : decode cL_law 292 = .ok (.iadd, 1) := by decide +kernel
theorem dL_law_293 : decode cL_law 293 = .ok (.iaload, 1) := by decide +kernel
theorem dL_law_294 : decode cL_law 294 = .ok (.aload_n 0, 1) := by decide +kernel
theorem dL_law_295 : decode cL_law 295 = .ok (.iload_n 3, 1) := by decide +kernel
theorem dL_law_296 : decode cL_law 296 = .ok (.iconst 5, 1) := by decide +kernel
theorem dL_law_297 : decode cL_law 297 = .ok (.iadd, 1) := by decide +kernel
theorem dL_law_298 : decode cL_law 298 = .ok (.iaload, 1) := by decide +kernel
theorem dL_law_299 : decode cL_law 299 = .ok (.invokevirtual 29, 3) := by decide +kernel
theorem dL_law_302 : decode cL_law 302 = .ok (.if_icmp .eq 616, 3) := by decide +kernel
theorem dL_law_305 : decode cL_law 305 = .ok (.iconst 0, 1) := by decide +kernel
theorem dL_law_306 : decode cL_law 306 = .ok (.ireturn, 1) := by decide +kernel
theorem dL_law_307 : decode cL_law 307 = .ok (.aload_n 1, 1) := by decide +kernel
theorem dL_law_308 : decode cL_law 308 = .ok (.aload_n 0, 1) := by decide +kernel
theorem dL_law_309 : decode cL_law 309 = .ok (.iload_n 3, 1) := by decide +kernel
theorem dL_law_310 : decode cL_law 310 = .ok (.iconst 1, 1) := by decide +kernel
theorem dL_law_311 : decode cL_law 311 = .ok (.iadd, 1) := by decide +kernel
theorem dL_law_312 : decode cL_law 312 = .ok (.iaload, 1) := by decide +kernel
theorem dL_law_313 : decode cL_law 313 = .ok (.aload_n 0, 1) := by decide +kernel
theorem dL_law_314 : decode cL_law 314 = .ok (.iload_n 3, 1) := by decide +kernel
theorem dL_law_315 : decode cL_law 315 = .ok (.iconst 2, 1) := by decide +kernel
theorem dL_law_316 : decode cL_law 316 = .ok (.iadd, 1) := by decide +kernel
theorem dL_law_317 : decode cL_law 317 = .ok (.iaload, 1) := by decide +kernel
theorem dL_law_318 : decode cL_law 318 = .ok (.aload_n 0, 1) := by decide +kernel
theorem dL_law_319 : decode cL_law 319 = .ok (.iload_n 3, 1) := by decide +kernel
theorem dL_law_320 : decode cL_law 320 = .ok (.iconst 3, 1) := by decide +kernel
theorem dL_law_321 : decode cL_law 321 = .ok (.iadd, 1) := by decide +kernel
theorem dL_law_322 : decode cL_law 322 = .ok (.iaload, 1) := by decide +kernel
theorem dL_law_323 : decode cL_law 323 = .ok (.i2l, 1) := by decide +kernel
theorem dL_law_324 : decode cL_law 324 = .ok (.bipush 32, 2) := by decide +kernel
theorem dL_law_326 : decode cL_law 326 = .ok (.lshl, 1) := by decide +kernel
theorem dL_law_327 : decode cL_law 327 = .ok (.aload_n 0, 1) := by decide +kernel
theorem dL_law_328 : decode cL_law 328 = .ok (.iload_n 3, 1) := by decide +kernel
theorem dL_law_329 : decode cL_law 329 = .ok (.iconst 4, 1) := by decide +kernel
theorem dL_law_330 : decode cL_law 330 = .ok (.iadd, 1) := by decide +kernel
theorem dL_law_331 : decode cL_law 331 = .ok (.iaload, 1) := by decide +kernel
theorem dL_law_332 : decode cL_law 332 = .ok (.i2l, 1) := by decide +kernel
theorem dL_law_333 : decode cL_law 333 = .ok (.ldc2_w 18, 3) := by decide +kernel
theorem dL_law_336 : decode cL_law 336 = .ok (.land, 1) := by decide +kernel
theorem dL_law_337 : decode cL_law 337 = .ok (.lor, 1) := by decide +kernel
theorem dL_law_338 : decode cL_law 338 = .ok (.invokevirtual 30, 3) := by decide +kernel
theorem dL_law_341 : decode cL_law 341 = .ok (.aload_n 2, 1) := by decide +kernel
theorem dL_law_342 : decode cL_law 342 = .ok (.aload_n 0, 1) := by decide +kernel
theorem dL_law_343 : decode cL_law 343 = .ok (.iload_n 3, 1) := by decide +kernel
theorem dL_law_344 : decode cL_law 344 = .ok (.iconst 1, 1) := by decide +kernel
theorem dL_law_345 : decode cL_law 345 = .ok (.iadd, 1) := by decide +kernel
theorem dL_law_346 : decode cL_law 346 = .ok (.iaload, 1) := by decide +kernel
theorem dL_law_347 : decode cL_law 347 = .ok (.aload_n 0, 1) := by decide +kernel
theorem dL_law_348 : decode cL_law 348 = .ok (.iload_n 3, 1) := by decide +kernel
theorem dL_law_349 : decode cL_law 349 = .ok (.iconst 2, 1) := by decide +kernel
theorem dL_law_350 : decode cL_law 350 = .ok (.iadd, 1) := by decide +kernel
theorem dL_law_351 : decode cL_law 351 = .ok (.iaload, 1) := by decide +kernel
theorem dL_law_352 : decode cL_law 352 = .ok (.aload_n 0, 1) := by decide +kernel
theorem dL_law_353 : decode cL_law 353 = .ok (.iload_n 3, 1) := by decide +kernel
theorem dL_law_354 : decode cL_law 354 = .ok (.iconst 3, 1) := by decide +kernel
theorem dL_law_355 : decode cL_law 355 = .ok (.iadd, 1) := by decide +kernel
theorem dL_law_356 : decode cL_law 356 = .ok (.iaload, 1) := by decide +kernel
theorem dL_law_357 : decode cL_law 357 = .ok (.i2l, 1) := by decide +kernel
theorem dL_law_358 : decode cL_law 358 = .ok (.bipush 32, 2) := by decide +kernel
theorem dL_law_360 : decode cL_law 360 = .ok (.lshl, 1) := by decide +kernel
theorem dL_law_361 : decode cL_law 361 = .ok (.aload_n 0, 1) := by decide +kernel
theorem dL_law_362 : decode cL_law 362 = .ok (.iload_n 3, 1) := by decide +kernel
theorem dL_law_363 : decode cL_law 363 = .ok (.iconst 4, 1) := by decide +kernel
theorem dL_law_364 : decode cL_law 364 = .ok (.iadd, 1) := by decide +kernel
theorem dL_law_365 : decode cL_law 365 = .ok (.iaload, 1) := by decide +kernel
theorem dL_law_366 : decode cL_law 366 = .ok (.i2l, 1) := by decide +kernel
theorem dL_law_367 : decode cL_law 367 = .ok (.ldc2_w 18, 3) := by decide +kernel
theorem dL_law_370 : decode cL_law 370 = .ok (.land, 1) := by decide +kernel
theorem dL_law_371 : decode cL_law 371 = .ok (.lor, 1) := by decide +kernel
theorem dL_law_372 : decode cL_law 372 = .ok (.invokevirtual 33, 3) := by decide +kernel
theorem dL_law_375 : decode cL_law 375 = .ok (.if_icmp .eq 543, 3) := by decide +kernel
theorem dL_law_378 : decode cL_law 378 = .ok (.iconst 0, 1) := by decide +kernel
theorem dL_law_379 : decode cL_law 379 = .ok (.ireturn, 1) := by decide +kernel
theorem dL_law_380 : decode cL_law 380 = .ok (.aload_n 1, 1) := by decide +kernel
theorem dL_law_381 : decode cL_law 381 = .ok (.aload_n 0, 1) := by decide +kernel
theorem dL_law_382 : decode cL_law 382 = .ok (.iload_n 3, 1) := by decide +kernel
theorem dL_law_383 : decode cL_law 383 = .ok (.iconst 1, 1) := by decide +kernel
theorem dL_law_384 : decode cL_law 384 = .ok (.iadd, 1) := by decide +kernel
theorem dL_law_385 : decode cL_law 385 = .ok (.iaload, 1) := by decide +kernel
theorem dL_law_386 : decode cL_law 386 = .ok (.aload_n 0, 1) := by decide +kernel
theorem dL_law_387 : decode cL_law 387 = .ok (.iload_n 3, 1) := by decide +kernel
theorem dL_law_388 : decode cL_law 388 = .ok (.iconst 2, 1) := by decide +kernel
theorem dL_law_389 : decode cL_law 389 = .ok (.iadd, 1) := by decide +kernel
theorem dL_law_390 : decode cL_law 390 = .ok (.iaload, 1) := by decide +kernel
theorem dL_law_391 : decode cL_law 391 = .ok (.invokevirtual 34, 3) := by decide +kernel
theorem dL_law_394 : decode cL_law 394 = .ok (.aload_n 2, 1) := by decide +kernel
theorem dL_law_395 : decode cL_law 395 = .ok (.aload_n 0, 1) := by decide +kernel
theorem dL_law_396 : decode cL_law 396 = .ok (.iload_n 3, 1) := by decide +kernel
theorem dL_law_397 : decode cL_law 397 = .ok (.iconst 1, 1) := by decide +kernel
theorem dL_law_398 : decode cL_law 398 = .ok (.iadd, 1) := by decide +kernel
theorem dL_law_399 : decode cL_law 399 = .ok (.iaload, 1) := by decide +kernel
theorem dL_law_400 : decode cL_law 400 = .ok (.aload_n 0, 1) := by decide +kernel
theorem dL_law_401 : decode cL_law 401 = .ok (.iload_n 3, 1) := by decide +kernel
theorem dL_law_402 : decode cL_law 402 = .ok (.iconst 2, 1) := by decide +kernel
theorem dL_law_403 : decode cL_law 403 = .ok (.iadd, 1) := by decide +kernel
theorem dL_law_404 : decode cL_law 404 = .ok (.iaload, 1) := by decide +kernel
theorem dL_law_405 : decode cL_law 405 = .ok (.invokevirtual 38, 3) := by decide +kernel
theorem dL_law_408 : decode cL_law 408 = .ok (.if_icmp .eq 510, 3) := by decide +kernel
theorem dL_law_411 : decode cL_law 411 = .ok (.iconst 0, 1) := by decide +kernel
theorem dL_law_412 : decode cL_law 412 = .ok (.ireturn, 1) := by decide +kernel
theorem dL_law_413 : decode cL_law 413 = .ok (.aload_n 1, 1) := by decide +kernel
theorem dL_law_414 : decode cL_law 414 = .ok (.aload_n 0, 1) := by decide +kernel
theorem dL_law_415 : decode cL_law 415 = .ok (.iload_n 3, 1) := by decide +kernel
theorem dL_law_416 : decode cL_law 416 = .ok (.iconst 1, 1) := by decide +kernel
theorem dL_law_417 : decode cL_law 417 = .ok (.iadd, 1) := by decide +kernel
theorem dL_law_418 : decode cL_law 418 = .ok (.iaload, 1) := by decide +kernel
theorem dL_law_419 : decode cL_law 419 = .ok (.aload_n 0, 1) := by decide +kernel
theorem dL_law_420 : decode cL_law 420 = .ok (.iload_n 3, 1) := by decide +kernel
theorem dL_law_421 : decode cL_law 421 = .ok (.iconst 2, 1) := by decide +kernel
theorem dL_law_422 : decode cL_law 422 = .ok (.iadd, 1) := by decide +kernel
theorem dL_law_423 : decode cL_law 423 = .ok (.iaload, 1) := by decide +kernel
theorem dL_law_424 : decode cL_law 424 = .ok (.invokevirtual 39, 3) := by decide +kernel
theorem dL_law_427 : decode cL_law 427 = .ok (.aload_n 2, 1) := by decide +kernel
theorem dL_law_428 : decode cL_law 428 = .ok (.aload_n 0, 1) := by decide +kernel
theorem dL_law_429 : decode cL_law 429 = .ok (.iload_n 3, 1) := by decide +kernel
theorem dL_law_430 : decode cL_law 430 = .ok (.iconst 1, 1) := by decide +kernel
theorem dL_law_431 : decode cL_law 431 = .ok (.iadd, 1) := by decide +kernel
theorem dL_law_432 : decode cL_law 432 = .ok (.iaload, 1) := by decide +kernel
theorem dL_law_433 : decode cL_law 433 = .ok (.aload_n 0, 1) := by decide +kernel
theorem dL_law_434 : decode cL_law 434 = .ok (.iload_n 3, 1) := by decide +kernel
theorem dL_law_435 : decode cL_law 435 = .ok (.iconst 2, 1) := by decide +kernel
theorem dL_law_436 : decode cL_law 436 = .ok (.iadd, 1) := by decide +kernel
theorem dL_law_437 : decode cL_law 437 = .ok (.iaload, 1) := by decide +kernel
theorem dL_law_438 : decode cL_law 438 = .ok (.invokevirtual 42, 3) := by decide +kernel
theorem dL_law_441 : decode cL_law 441 = .ok (.if_icmp .eq 477, 3) := by decide +kernel
theorem dL_law_444 : decode cL_law 444 = .ok (.iconst 0, 1) := by decide +kernel
theorem dL_law_445 : decode cL_law 445 = .ok (.ireturn, 1) := by decide +kernel
theorem dL_law_446 : decode cL_law 446 = .ok (.aload_n 1, 1) := by decide +kernel
theorem dL_law_447 : decode cL_law 447 = .ok (.aload_n 0, 1) := by decide +kernel
theorem dL_law_448 : decode cL_law 448 = .ok (.iload_n 3, 1) := by decide +kernel
theorem dL_law_449 : decode cL_law 449 = .ok (.iconst 1, 1) := by decide +kernel
theorem dL_law_450 : decode cL_law 450 = .ok (.iadd, 1) := by decide +kernel
theorem dL_law_451 : decode cL_law 451 = .ok (.iaload, 1) := by decide +kernel
theorem dL_law_452 : decode cL_law 452 = .ok (.aload_n 0, 1) := by decide +kernel
theorem dL_law_453 : decode cL_law 453 = .ok (.iload_n 3, 1) := by decide +kernel
theorem dL_law_454 : decode cL_law 454 = .ok (.iconst 2, 1) := by decide +kernel
theorem dL_law_455 : decode cL_law 455 = .ok (.iadd, 1) := by decide +kernel
theorem dL_law_456 : decode cL_law 456 = .ok (.iaload, 1) := by decide +kernel
theorem dL_law_457 : decode cL_law 457 = .ok (.aload_n 0, 1) := by decide +kernel
theorem dL_law_458 : decode cL_law 458 = .ok (.iload_n 3, 1) := by decide +kernel
theorem dL_law_459 : decode cL_law 459 = .ok (.iconst 3, 1) := by decide +kernel
theorem dL_law_460 : decode cL_law 460 = .ok (.iadd, 1) := by decide +kernel
theorem dL_law_461 : decode cL_law 461 = .ok (.iaload, 1) := by decide +kernel
theorem dL_law_462 : decode cL_law 462 = .ok (.invokevirtual 43, 3) := by decide +kernel
theorem dL_law_465 : decode cL_law 465 = .ok (.aload_n 2, 1) := by decide +kernel
theorem dL_law_466 : decode cL_law 466 = .ok (.aload_n 0, 1) := by decide +kernel
theorem dL_law_467 : decode cL_law 467 = .ok (.iload_n 3, 1) := by decide +kernel
theorem dL_law_468 : decode cL_law 468 = .ok (.iconst 1, 1) := by decide +kernel
theorem dL_law_469 : decode cL_law 469 = .ok (.iadd, 1) := by decide +kernel
theorem dL_law_470 : decode cL_law 470 = .ok (.iaload, 1) := by decide +kernel
theorem dL_law_471 : decode cL_law 471 = .ok (.aload_n 0, 1) := by decide +kernel
theorem dL_law_472 : decode cL_law 472 = .ok (.iload_n 3, 1) := by decide +kernel
theorem dL_law_473 : decode cL_law 473 = .ok (.iconst 2, 1) := by decide +kernel
theorem dL_law_474 : decode cL_law 474 = .ok (.iadd, 1) := by decide +kernel
theorem dL_law_475 : decode cL_law 475 = .ok (.iaload, 1) := by decide +kernel
theorem dL_law_476 : decode cL_law 476 = .ok (.aload_n 0, 1) := by decide +kernel
theorem dL_law_477 : decode cL_law 477 = .ok (.iload_n 3, 1) := by decide +kernel
theorem dL_law_478 : decode cL_law 478 = .ok (.iconst 3, 1) := by decide +kernel
theorem dL_law_479 : decode cL_law 479 = .ok (.iadd, 1) := by decide +kernel
theorem dL_law_480 : decode cL_law 480 = .ok (.iaload, 1) := by decide +kernel
theorem dL_law_481 : decode cL_law 481 = .ok (.invokevirtual 46, 3) := by decide +kernel
theorem dL_law_484 : decode cL_law 484 = .ok (.if_icmp .eq 434, 3) := by decide +kernel
theorem dL_law_487 : decode cL_law 487 = .ok (.iconst 0, 1) := by decide +kernel
theorem dL_law_488 : decode cL_law 488 = .ok (.ireturn, 1) := by decide +kernel
theorem dL_law_489 : decode cL_law 489 = .ok (.aload_n 1, 1) := by decide +kernel
theorem dL_law_490 : decode cL_law 490 = .ok (.aload_n 0, 1) := by decide +kernel
theorem dL_law_491 : decode cL_law 491 = .ok (.iload_n 3, 1) := by decide +kernel
theorem dL_law_492 : decode cL_law 492 = .ok (.iconst 1, 1) := by decide +kernel
theorem dL_law_493 : decode cL_law 493 = .ok (.iadd, 1) := by decide +kernel
theorem dL_law_494 : decode cL_law 494 = .ok (.iaload, 1) := by decide +kernel
theorem dL_law_495 : decode cL_law 495 = .ok (.invokevirtual 47, 3) := by decide +kernel
theorem dL_law_498 : decode cL_law 498 = .ok (.aload_n 2, 1) := by decide +kernel
theorem dL_law_499 : decode cL_law 499 = .ok (.aload_n 0, 1) := by decide +kernel
theorem dL_law_500 : decode cL_law 500 = .ok (.iload_n 3, 1) := by decide +kernel
theorem dL_law_501 : decode cL_law 501 = .ok (.iconst 1, 1) := by decide +kernel
theorem dL_law_502 : decode cL_law 502 = .ok (.iadd, 1) := by decide +kernel
theorem dL_law_503 : decode cL_law 503 = .ok (.iaload, 1) := by decide +kernel
theorem dL_law_504 : decode cL_law 504 = .ok (.invokevirtual 51, 3) := by decide +kernel
theorem dL_law_507 : decode cL_law 507 = .ok (.if_icmp .eq 411, 3) := by decide +kernel
theorem dL_law_510 : decode cL_law 510 = .ok (.iconst 0, 1) := by decide +kernel
theorem dL_law_511 : decode cL_law 511 = .ok (.ireturn, 1) := by decide +kernel
theorem dL_law_512 : decode cL_law 512 = .ok (.aload_n 1, 1) := by decide +kernel
theorem dL_law_513 : decode cL_law 513 = .ok (.aload_n 0, 1) := by decide +kernel
theorem dL_law_514 : decode cL_law 514 = .ok (.iload_n 3, 1) := by decide +kernel
theorem dL_law_515 : decode cL_law 515 = .ok (.iconst 1, 1) := by decide +kernel
theorem dL_law_516 : decode cL_law 516 = .ok (.iadd, 1) := by decide +kernel
theorem dL_law_517 : decode cL_law 517 = .ok (.iaload, 1) := by decide +kernel
theorem dL_law_518 : decode cL_law 518 = .ok (.invokevirtual 52, 3) := by decide +kernel
theorem dL_law_521 : decode cL_law 521 = .ok (.aload_n 2, 1) := by decide +kernel
theorem dL_law_522 : decode cL_law 522 = .ok (.aload_n 0, 1) := by decide +kernel
theorem dL_law_523 : decode cL_law 523 = .ok (.iload_n 3, 1) := by decide +kernel
theorem dL_law_524 : decode cL_law 524 = .ok (.iconst 1, 1) := by decide +kernel
theorem dL_law_525 : decode cL_law 525 = .ok (.iadd, 1) := by decide +kernel
theorem dL_law_526 : decode cL_law 526 = .ok (.iaload, 1) := by decide +kernel
theorem dL_law_527 : decode cL_law 527 = .ok (.invokevirtual 55, 3) := by decide +kernel
theorem dL_law_530 : decode cL_law 530 = .ok (.if_icmp .eq 388, 3) := by decide +kernel
theorem dL_law_533 : decode cL_law 533 = .ok (.iconst 0, 1) := by decide +kernel
theorem dL_law_534 : decode cL_law 534 = .ok (.ireturn, 1) := by decide +kernel
theorem dL_law_535 : decode cL_law 535 = .ok (.aload_n 1, 1) := by decide +kernel
theorem dL_law_536 : decode cL_law 536 = .ok (.aload_n 0, 1) := by decide +kernel
theorem dL_law_537 : decode cL_law 537 = .ok (.iload_n 3, 1) := by decide +kernel
theorem dL_law_538 : decode cL_law 538 = .ok (.iconst 1, 1) := by decide +kernel
theorem dL_law_539 : decode cL_law 539 = .ok (.iadd, 1) := by decide +kernel
theorem dL_law_540 : decode cL_law 540 = .ok (.iaload, 1) := by decide +kernel
theorem dL_law_541 : decode cL_law 541 = .ok (.aload_n 0, 1) := by decide +kernel
theorem dL_law_542 : decode cL_law 542 = .ok (.iload_n 3, 1) := by decide +kernel
theorem dL_law_543 : decode cL_law 543 = .ok (.iconst 2, 1) := by decide +kernel
theorem dL_law_544 : decode cL_law 544 = .ok (.iadd, 1) := by decide +kernel
theorem dL_law_545 : decode cL_law 545 = .ok (.iaload, 1) := by decide +kernel
theorem dL_law_546 : decode cL_law 546 = .ok (.invokevirtual 56, 3) := by decide +kernel
theorem dL_law_549 : decode cL_law 549 = .ok (.aload_n 2, 1) := by decide +kernel
theorem dL_law_550 : decode cL_law 550 = .ok (.aload_n 0, 1) := by decide +kernel
theorem dL_law_551 : decode cL_law 551 = .ok (.iload_n 3, 1) := by decide +kernel
theorem dL_law_552 : decode cL_law 552 = .ok (.iconst 1, 1) := by decide +kernel
theorem dL_law_553 : decode cL_law 553 = .ok (.iadd, 1) := by decide +kernel
theorem dL_law_554 : decode cL_law 554 = .ok (.iaload, 1) := by decide +kernel
theorem dL_law_555 : decode cL_law 555 = .ok (.aload_n 0, 1) := by decide +kernel
theorem dL_law_556 : decode cL_law 556 = .ok (.iload_n 3, 1) := by decide +kernel
theorem dL_law_557 : decode cL_law 557 = .ok (.iconst 2, 1) := by decide +kernel
theorem dL_law_558 : decode cL_law 558 = .ok (.iadd, 1) := by decide +kernel
theorem dL_law_559 : decode cL_law 559 = .ok (.iaload, 1) := by decide +kernel
theorem dL_law_560 : decode cL_law 560 = .ok (.invokevirtual 59, 3) := by decide +kernel
theorem dL_law_563 : decode cL_law 563 = .ok (.if_icmp .eq 355, 3) := by decide +kernel
theorem dL_law_566 : decode cL_law 566 = .ok (.iconst 0, 1) := by decide +kernel
theorem dL_law_567 : decode cL_law 567 = .ok (.ireturn, 1) := by decide +kernel
theorem dL_law_568 : decode cL_law 568 = .ok (.aload_n 1, 1) := by decide +kernel
theorem dL_law_569 : decode cL_law 569 = .ok (.aload_n 0, 1) := by decide +kernel
theorem dL_law_570 : decode cL_law 570 = .ok (.iload_n 3, 1) := by decide +kernel
theorem dL_law_571 : decode cL_law 571 = .ok (.iconst 1, 1) := by decide +kernel
theorem dL_law_572 : decode cL_law 572 = .ok (.iadd, 1) := by decide +kernel
theorem dL_law_573 : decode cL_law 573 = .ok (.iaload, 1) := by decide +kernel
theorem dL_law_574 : decode cL_law 574 = .ok (.aload_n 0, 1) := by decide +kernel
theorem dL_law_575 : decode cL_law 575 = .ok (.iload_n 3, 1) := by decide +kernel
theorem dL_law_576 : decode cL_law 576 = .ok (.iconst 2, 1) := by decide +kernel
theorem dL_law_577 : decode cL_law 577 = .ok (.iadd, 1) := by decide +kernel
theorem dL_law_578 : decode cL_law 578 = .ok (.iaload, 1) := by decide +kernel
theorem dL_law_579 : decode cL_law 579 = .ok (.aload_n 0, 1) := by decide +kernel
theorem dL_law_580 : decode cL_law 580 = .ok (.iload_n 3, 1) := by decide +kernel
theorem dL_law_581 : decode cL_law 581 = .ok (.iconst 3, 1) := by decide +kernel
theorem dL_law_582 : decode cL_law 582 = .ok (.iadd, 1) := by decide +kernel
theorem dL_law_583 : decode cL_law 583 = .ok (.iaload, 1) := by decide +kernel
theorem dL_law_584 : decode cL_law 584 = .ok (.invokevirtual 60, 3) := by decide +kernel
theorem dL_law_587 : decode cL_law 587 = .ok (.aload_n 2, 1) := by decide +kernel
theorem dL_law_588 : decode cL_law 588 = .ok (.aload_n 0, 1) := by decide +kernel
theorem dL_law_589 : decode cL_law 589 = .ok (.iload_n 3, 1) := by decide +kernel
theorem dL_law_590 : decode cL_law 590 = .ok (.iconst 1, 1) := by decide +kernel
theorem dL_law_591 : decode cL_law 591 = .ok (.iadd, 1) := by decide +kernel
theorem dL_law_592 : decode cL_law 592 = .ok (.iaload, 1) := by decide +kernel
theorem dL_law_593 : decode cL_law 593 = .ok (.aload_n 0, 1) := by decide +kernel
theorem dL_law_594 : decode cL_law 594 = .ok (.iload_n 3, 1) := by decide +kernel
theorem dL_law_595 : decode cL_law 595 = .ok (.iconst 2, 1) := by decide +kernel
theorem dL_law_596 : decode cL_law 596 = .ok (.iadd, 1) := by decide +kernel
theorem dL_law_597 : decode cL_law 597 = .ok (.iaload, 1) := by decide +kernel
theorem dL_law_598 : decode cL_law 598 = .ok (.aload_n 0, 1) := by decide +kernel
theorem dL_law_599 : decode cL_law 599 = .ok (.iload_n 3, 1) := by decide +kernel
theorem dL_law_600 : decode cL_law 600 = .ok (.iconst 3, 1) := by decide +kernel
theorem dL_law_601 : decode cL_law 601 = .ok (.iadd, 1) := by decide +kernel
theorem dL_law_602 : decode cL_law 602 = .ok (.iaload, 1) := by decide +kernel
theorem dL_law_603 : decode cL_law 603 = .ok (.invokevirtual 63, 3) := by decide +kernel
theorem dL_law_606 : decode cL_law 606 = .ok (.if_icmp .eq 312, 3) := by decide +kernel
theorem dL_law_609 : decode cL_law 609 = .ok (.iconst 0, 1) := by decide +kernel
theorem dL_law_610 : decode cL_law 610 = .ok (.ireturn, 1) := by decide +kernel
theorem dL_law_611 : decode cL_law 611 = .ok (.aload_n 1, 1) := by decide +kernel
theorem dL_law_612 : decode cL_law 612 = .ok (.aload_n 0, 1) := by decide +kernel
theorem dL_law_613 : decode cL_law 613 = .ok (.iload_n 3, 1) := by decide +kernel
theorem dL_law_614 : decode cL_law 614 = .ok (.iconst 1, 1) := by decide +kernel
theorem dL_law_615 : decode cL_law 615 = .ok (.iadd, 1) := by decide +kernel
theorem dL_law_616 : decode cL_law 616 = .ok (.iaload, 1) := by decide +kernel
theorem dL_law_617 : decode cL_law 617 = .ok (.aload_n 0, 1) := by decide +kernel
theorem dL_law_618 : decode cL_law 618 = .ok (.iload_n 3, 1) := by decide +kernel
theorem dL_law_619 : decode cL_law 619 = .ok (.iconst 2, 1) := by decide +kernel
theorem dL_law_620 : decode cL_law 620 = .ok (.iadd, 1) := by decide +kernel
theorem dL_law_621 : decode cL_law 621 = .ok (.iaload, 1) := by decide +kernel
theorem dL_law_622 : decode cL_law 622 = .ok (.invokevirtual 64, 3) := by decide +kernel
theorem dL_law_625 : decode cL_law 625 = .ok (.aload_n 2, 1) := by decide +kernel
theorem dL_law_626 : decode cL_law 626 = .ok (.aload_n 0, 1) := by decide +kernel
theorem dL_law_627 : decode cL_law 627 = .ok (.iload_n 3, 1) := by decide +kernel
theorem dL_law_628 : decode cL_law 628 = .ok (.iconst 1, 1) := by decide +kernel
theorem dL_law_629 : decode cL_law 629 = .ok (.iadd, 1) := by decide +kernel
theorem dL_law_630 : decode cL_law 630 = .ok (.iaload, 1) := by decide +kernel
theorem dL_law_631 : decode cL_law 631 = .ok (.aload_n 0, 1) := by decide +kernel
theorem dL_law_632 : decode cL_law 632 = .ok (.iload_n 3, 1) := by decide +kernel
theorem dL_law_633 : decode cL_law 633 = .ok (.iconst 2, 1) := by decide +kernel
theorem dL_law_634 : decode cL_law 634 = .ok (.iadd, 1) := by decide +kernel
theorem dL_law_635 : decode cL_law 635 = .ok (.iaload, 1) := by decide +kernel
theorem dL_law_636 : decode cL_law 636 = .ok (.invokevirtual 67, 3) := by decide +kernel
theorem dL_law_639 : decode cL_law 639 = .ok (.if_icmp .eq 279, 3) := by decide +kernel
theorem dL_law_642 : decode cL_law 642 = .ok (.iconst 0, 1) := by decide +kernel
theorem dL_law_643 : decode cL_law 643 = .ok (.ireturn, 1) := by decide +kernel
theorem dL_law_644 : decode cL_law 644 = .ok (.aload_n 1, 1) := by decide +kernel
theorem dL_law_645 : decode cL_law 645 = .ok (.aload_n 0, 1) := by decide +kernel
theorem dL_law_646 : decode cL_law 646 = .ok (.iload_n 3, 1) := by decide +kernel
theorem dL_law_647 : decode cL_law 647 = .ok (.iconst 1, 1) := by decide +kernel
theorem dL_law_648 : decode cL_law 648 = .ok (.iadd, 1) := by decide +kernel
theorem dL_law_649 : decode cL_law 649 = .ok (.iaload, 1) := by decide +kernel
theorem dL_law_650 : decode cL_law 650 = .ok (.aload_n 0, 1) := by decide +kernel
theorem dL_law_651 : decode cL_law 651 = .ok (.iload_n 3, 1) := by decide +kernel
theorem dL_law_652 : decode cL_law 652 = .ok (.iconst 2, 1) := by decide +kernel
theorem dL_law_653 : decode cL_law 653 = .ok (.iadd, 1) := by decide +kernel
theorem dL_law_654 : decode cL_law 654 = .ok (.iaload, 1) := by decide +kernel
theorem dL_law_655 : decode cL_law 655 = .ok (.aload_n 0, 1) := by decide +kernel
theorem dL_law_656 : decode cL_law 656 = .ok (.iload_n 3, 1) := by decide +kernel
theorem dL_law_657 : decode cL_law 657 = .ok (.iconst 3, 1) := by decide +kernel
theorem dL_law_658 : decode cL_law 658 = .ok (.iadd, 1) := by decide +kernel
theorem dL_law_659 : decode cL_law 659 = .ok (.iaload, 1) := by decide +kernel
theorem dL_law_660 : decode cL_law 660 = .ok (.aload_n 0, 1) := by decide +kernel
theorem dL_law_661 : decode cL_law 661 = .ok (.iload_n 3, 1) := by decide +kernel
theorem dL_law_662 : decode cL_law 662 = .ok (.iconst 4, 1) := by decide +kernel
theorem dL_law_663 : decode cL_law 663 = .ok (.iadd, 1) := by decide +kernel
theorem dL_law_664 : decode cL_law 664 = .ok (.iaload, 1) := by decide +kernel
theorem dL_law_665 : decode cL_law 665 = .ok (.invokevirtual 68, 3) := by decide +kernel
theorem dL_law_668 : decode cL_law 668 = .ok (.aload_n 2, 1) := by decide +kernel
theorem dL_law_669 : decode cL_law 669 = .ok (.aload_n 0, 1) := by decide +kernel
theorem dL_law_670 : decode cL_law 670 = .ok (.iload_n 3, 1) := by decide +kernel
theorem dL_law_671 : decode cL_law 671 = .ok (.iconst 1, 1) := by decide +kernel
theorem dL_law_672 : decode cL_law 672 = .ok (.iadd, 1) := by decide +kernel
theorem dL_law_673 : decode cL_law 673 = .ok (.iaload, 1) := by decide +kernel
theorem dL_law_674 : decode cL_law 674 = .ok (.aload_n 0, 1) := by decide +kernel
theorem dL_law_675 : decode cL_law 675 = .ok (.iload_n 3, 1) := by decide +kernel
theorem dL_law_676 : decode cL_law 676 = .ok (.iconst 2, 1) := by decide +kernel
theorem dL_law_677 : decode cL_law 677 = .ok (.iadd, 1) := by decide +kernel
theorem dL_law_678 : decode cL_law 678 = .ok (.iaload, 1) := by decide +kernel
theorem dL_law_679 : decode cL_law 679 = .ok (.aload_n 0, 1) := by decide +kernel
theorem dL_law_680 : decode cL_law 680 = .ok (.iload_n 3, 1) := by decide +kernel
theorem dL_law_681 : decode cL_law 681 = .ok (.iconst 3, 1) := by decide +kernel
theorem dL_law_682 : decode cL_law 682 = .ok (.iadd, 1) := by decide +kernel
theorem dL_law_683 : decode cL_law 683 = .ok (.iaload, 1) := by decide +kernel
theorem dL_law_684 : decode cL_law 684 = .ok (.aload_n 0, 1) := by decide +kernel
theorem dL_law_685 : decode cL_law 685 = .ok (.iload_n 3, 1) := by decide +kernel
theorem dL_law_686 : decode cL_law 686 = .ok (.iconst 4, 1) := by decide +kernel
theorem dL_law_687 : decode cL_law 687 = .ok (.iadd, 1) := by decide +kernel
theorem dL_law_688 : decode cL_law 688 = .ok (.iaload, 1) := by decide +kernel
theorem dL_law_689 : decode cL_law 689 = .ok (.invokevirtual 72, 3) := by decide +kernel
theorem dL_law_692 : decode cL_law 692 = .ok (.if_icmp .eq 226, 3) := by decide +kernel
theorem dL_law_695 : decode cL_law 695 = .ok (.iconst 0, 1) := by decide +kernel
theorem dL_law_696 : decode cL_law 696 = .ok (.ireturn, 1) := by decide +kernel
theorem dL_law_697 : decode cL_law 697 = .ok (.aload_n 1, 1) := by decide +kernel
theorem dL_law_698 : decode cL_law 698 = .ok (.aload_n 0, 1) := by decide +kernel
theorem dL_law_699 : decode cL_law 699 = .ok (.iload_n 3, 1) := by decide +kernel
theorem dL_law_700 : decode cL_law 700 = .ok (.iconst 1, 1) := by decide +kernel
theorem dL_law_701 : decode cL_law 701 = .ok (.iadd, 1) := by decide +kernel
theorem dL_law_702 : decode cL_law 702 = .ok (.iaload, 1) := by decide +kernel
theorem dL_law_703 : decode cL_law 703 = .ok (.aload_n 0, 1) := by decide +kernel
theorem dL_law_704 : decode cL_law 704 = .ok (.iload_n 3, 1) := by decide +kernel
theorem dL_law_705 : decode cL_law 705 = .ok (.iconst 2, 1) := by decide +kernel
theorem dL_law_706 : decode cL_law 706 = .ok (.iadd, 1) := by decide +kernel
theorem dL_law_707 : decode cL_law 707 = .ok (.iaload, 1) := by decide +kernel
theorem dL_law_708 : decode cL_law 708 = .ok (.invokevirtual 73, 3) := by decide +kernel
theorem dL_law_711 : decode cL_law 711 = .ok (.aload_n 2, 1) := by decide +kernel
theorem dL_law_712 : decode cL_law 712 = .ok (.aload_n 0, 1) := by decide +kernel
theorem dL_law_713 : decode cL_law 713 = .ok (.iload_n 3, 1) := by decide +kernel
theorem dL_law_714 : decode cL_law 714 = .ok (.iconst 1, 1) := by decide +kernel
theorem dL_law_715 : decode cL_law 715 = .ok (.iadd, 1) := by decide +kernel
theorem dL_law_716 : decode cL_law 716 = .ok (.iaload, 1) := by decide +kernel
theorem dL_law_717 : decode cL_law 717 = .ok (.aload_n 0, 1) := by decide +kernel
theorem dL_law_718 : decode cL_law 718 = .ok (.iload_n 3, 1) := by decide +kernel
theorem dL_law_719 : decode cL_law 719 = .ok (.iconst 2, 1) := by decide +kernel
theorem dL_law_720 : decode cL_law 720 = .ok (.iadd, 1) := by decide +kernel
theorem dL_law_721 : decode cL_law 721 = .ok (.iaload, 1) := by decide +kernel
theorem dL_law_722 : decode cL_law 722 = .ok (.invokevirtual 76, 3) := by decide +kernel
theorem dL_law_725 : decode cL_law 725 = .ok (.if_icmp .eq 193, 3) := by decide +kernel
theorem dL_law_728 : decode cL_law 728 = .ok (.iconst 0, 1) := by decide +kernel
theorem dL_law_729 : decode cL_law 729 = .ok (.ireturn, 1) := by decide +kernel
theorem dL_law_730 : decode cL_law 730 = .ok (.aload_n 1, 1) := by decide +kernel
theorem dL_law_731 : decode cL_law 731 = .ok (.aload_n 0, 1) := by decide +kernel
theorem dL_law_732 : decode cL_law 732 = .ok (.iload_n 3, 1) := by decide +kernel
theorem dL_law_733 : decode cL_law 733 = .ok (.iconst 1, 1) := by decide +kernel
theorem dL_law_734 : decode cL_law 734 = .ok (.iadd, 1) := by decide +kernel
theorem dL_law_735 : decode cL_law 735 = .ok (.iaload, 1) := by decide +kernel
theorem dL_law_736 : decode cL_law 736 = .ok (.aload_n 0, 1) := by decide +kernel
theorem dL_law_737 : decode cL_law 737 = .ok (.iload_n 3, 1) := by decide +kernel
theorem dL_law_738 : decode cL_law 738 = .ok (.iconst 2, 1) := by decide +kernel
theorem dL_law_739 : decode cL_law 739 = .ok (.iadd, 1) := by decide +kernel
theorem dL_law_740 : decode cL_law 740 = .ok (.iaload, 1) := by decide +kernel
theorem dL_law_741 : decode cL_law 741 = .ok (.invokevirtual 77, 3) := by decide +kernel
theorem dL_law_744 : decode cL_law 744 = .ok (.aload_n 2, 1) := by decide +kernel
theorem dL_law_745 : decode cL_law 745 = .ok (.aload_n 0, 1) := by decide +kernel
theorem dL_law_746 : decode cL_law 746 = .ok (.iload_n 3, 1) := by decide +kernel
theorem dL_law_747 : decode cL_law 747 = .ok (.iconst 1, 1) := by decide +kernel
theorem dL_law_748 : decode cL_law 748 = .ok (.iadd, 1) := by decide +kernel
theorem dL_law_749 : decode cL_law 749 = .ok (.iaload, 1) := by decide +kernel
theorem dL_law_750 : decode cL_law 750 = .ok (.aload_n 0, 1) := by decide +kernel
theorem dL_law_751 : decode cL_law 751 = .ok (.iload_n 3, 1) := by decide +kernel
theorem dL_law_752 : decode cL_law 752 = .ok (.iconst 2, 1) := by decide +kernel
theorem dL_law_753 : decode cL_law 753 = .ok (.iadd, 1) := by decide +kernel
theorem dL_law_754 : decode cL_law 754 = .ok (.iaload, 1) := by decide +kernel
theorem dL_law_755 : decode cL_law 755 = .ok (.invokevirtual 80, 3) := by decide +kernel
theorem dL_law_758 : decode cL_law 758 = .ok (.if_icmp .eq 160, 3) := by decide +kernel
theorem dL_law_761 : decode cL_law 761 = .ok (.iconst 0, 1) := by decide +kernel
theorem dL_law_762 : decode cL_law 762 = .ok (.ireturn, 1) := by decide +kernel
theorem dL_law_763 : decode cL_law 763 = .ok (.aload_n 1, 1) := by decide +kernel
theorem dL_law_764 : decode cL_law 764 = .ok (.aload_n 0, 1) := by decide +kernel
theorem dL_law_765 : decode cL_law 765 = .ok (.iload_n 3, 1) := by decide +kernel
theorem dL_law_766 : decode cL_law 766 = .ok (.iconst 1, 1) := by decide +kernel
theorem dL_law_767 : decode cL_law 767 = .ok (.iadd, 1) := by decide +kernel
theorem dL_law_768 : decode cL_law 768 = .ok (.iaload, 1) := by decide +kernel
theorem dL_law_769 : decode cL_law 769 = .ok (.invokevirtual 81, 3) := by decide +kernel
theorem dL_law_772 : decode cL_law 772 = .ok (.aload_n 2, 1) := by decide +kernel
theorem dL_law_773 : decode cL_law 773 = .ok (.aload_n 0, 1) := by decide +kernel
theorem dL_law_774 : decode cL_law 774 = .ok (.iload_n 3, 1) := by decide +kernel
theorem dL_law_775 : decode cL_law 775 = .ok (.iconst 1, 1) := by decide +kernel
theorem dL_law_776 : decode cL_law 776 = .ok (.iadd, 1) := by decide +kernel
theorem dL_law_777 : decode cL_law 777 = .ok (.iaload, 1) := by decide +kernel
theorem dL_law_778 : decode cL_law 778 = .ok (.invokevirtual 84, 3) := by decide +kernel
theorem dL_law_781 : decode cL_law 781 = .ok (.if_icmp .eq 137, 3) := by decide +kernel
theorem dL_law_784 : decode cL_law 784 = .ok (.iconst 0, 1) := by decide +kernel
theorem dL_law_785 : decode cL_law 785 = .ok (.ireturn, 1) := by decide +kernel
theorem dL_law_786 : decode cL_law 786 = .ok (.aload_n 1, 1) := by decide +kernel
theorem dL_law_787 : decode cL_law 787 = .ok (.aload_n 0, 1) := by decide +kernel
theorem dL_law_788 : decode cL_law 788 = .ok (.iload_n 3, 1) := by decide +kernel
theorem dL_law_789 : decode cL_law 789 = .ok (.iconst 1, 1) := by decide +kernel
theorem dL_law_790 : decode cL_law 790 = .ok (.iadd, 1) := by decide +kernel
theorem dL_law_791 : decode cL_law 791 = .ok (.iaload, 1) := by decide +kernel
theorem dL_law_792 : decode cL_law 792 = .ok (.invokevirtual 85, 3) := by decide +kernel
theorem dL_law_795 : decode cL_law 795 = .ok (.aload_n 2, 1) := by decide +kernel
theorem dL_law_796 : decode cL_law 796 = .ok (.aload_n 0, 1) := by decide +kernel
theorem dL_law_797 : decode cL_law 797 = .ok (.iload_n 3, 1) := by decide +kernel
theorem dL_law_798 : decode cL_law 798 = .ok (.iconst 1, 1) := by decide +kernel
theorem dL_law_799 : decode cL_law 799 = .ok (.iadd, 1) := by decide +kernel
theorem dL_law_800 : decode cL_law 800 = .ok (.iaload, 1) := by decide +kernel
theorem dL_law_801 : decode cL_law 801 = .ok (.invokevirtual 88, 3) := by decide +kernel
theorem dL_law_804 : decode cL_law 804 = .ok (.if_icmp .eq 114, 3) := by decide +kernel
theorem dL_law_807 : decode cL_law 807 = .ok (.iconst 0, 1) := by decide +kernel
theorem dL_law_808 : decode cL_law 808 = .ok (.ireturn, 1) := by decide +kernel
theorem dL_law_809 : decode cL_law 809 = .ok (.aload_n 1, 1) := by decide +kernel
theorem dL_law_810 : decode cL_law 810 = .ok (.aload_n 0, 1) := by decide +kernel
theorem dL_law_811 : decode cL_law 811 = .ok (.iload_n 3, 1) := by decide +kernel
theorem dL_law_812 : decode cL_law 812 = .ok (.iconst 1, 1) := by decide +kernel
theorem dL_law_813 : decode cL_law 813 = .ok (.iadd, 1) := by decide +kernel
theorem dL_law_814 : decode cL_law 814 = .ok (.iaload, 1) := by decide +kernel
theorem dL_law_815 : decode cL_law 815 = .ok (.invokevirtual 89, 3) := by decide +kernel
theorem dL_law_818 : decode cL_law 818 = .ok (.aload_n 2, 1) := by decide +kernel
theorem dL_law_819 : decode cL_law 819 = .ok (.aload_n 0, 1) := by decide +kernel
theorem dL_law_820 : decode cL_law 820 = .ok (.iload_n 3, 1) := by decide +kernel
theorem dL_law_821 : decode cL_law 821 = .ok (.iconst 1, 1) := by decide +kernel
theorem dL_law_822 : decode cL_law 822 = .ok (.iadd, 1) := by decide +kernel
theorem dL_law_823 : decode cL_law 823 = .ok (.iaload, 1) := by decide +kernel
theorem dL_law_824 : decode cL_law 824 = .ok (.invokevirtual 92, 3) := by decide +kernel
theorem dL_law_827 : decode cL_law 827 = .ok (.if_icmp .eq 91, 3) := by decide +kernel
theorem dL_law_830 : decode cL_law 830 = .ok (.iconst 0, 1) := by decide +kernel
theorem dL_law_831 : decode cL_law 831 = .ok (.ireturn, 1) := by decide +kernel
theorem dL_law_832 : decode cL_law 832 = .ok (.aload_n 1, 1) := by decide +kernel
theorem dL_law_833 : decode cL_law 833 = .ok (.aload_n 0, 1) := by decide +kernel
theorem dL_law_834 : decode cL_law 834 = .ok (.iload_n 3, 1) := by decide +kernel
theorem dL_law_835 : decode cL_law 835 = .ok (.iconst 1, 1) := by decide +kernel
theorem dL_law_836 : decode cL_law 836 = .ok (.iadd, 1) := by decide +kernel
theorem dL_law_837 : decode cL_law 837 = .ok (.iaload, 1) := by decide +kernel
theorem dL_law_838 : decode cL_law 838 = .ok (.aload_n 0, 1) := by decide +kernel
theorem dL_law_839 : decode cL_law 839 = .ok (.iload_n 3, 1) := by decide +kernel
theorem dL_law_840 : decode cL_law 840 = .ok (.iconst 2, 1) := by decide +kernel
theorem dL_law_841 : decode cL_law 841 = .ok (.iadd, 1) := by decide +kernel
theorem dL_law_842 : decode cL_law 842 = .ok (.iaload, 1) := by decide +kernel
theorem dL_law_843 : decode cL_law 843 = .ok (.aload_n 0, 1) := by decide +kernel
theorem dL_law_844 : decode cL_law 844 = .ok (.iload_n 3, 1) := by decide +kernel
theorem dL_law_845 : decode cL_law 845 = .ok (.iconst 3, 1) := by decide +kernel
theorem dL_law_846 : decode cL_law 846 = .ok (.iadd, 1) := by decide +kernel
theorem dL_law_847 : decode cL_law 847 = .ok (.iaload, 1) := by decide +kernel
theorem dL_law_848 : decode cL_law 848 = .ok (.aload_n 0, 1) := by decide +kernel
theorem dL_law_849 : decode cL_law 849 = .ok (.iload_n 3, 1) := by decide +kernel
theorem dL_law_850 : decode cL_law 850 = .ok (.iconst 4, 1) := by decide +kernel
theorem dL_law_851 : decode cL_law 851 = .ok (.iadd, 1) := by decide +kernel
theorem dL_law_852 : decode cL_law 852 = .ok (.iaload, 1) := by decide +kernel
theorem dL_law_853 : decode cL_law 853 = .ok (.aload_n 0, 1) := by decide +kernel
theorem dL_law_854 : decode cL_law 854 = .ok (.iload_n 3, 1) := by decide +kernel
theorem dL_law_855 : decode cL_law 855 = .ok (.iconst 5, 1) := by decide +kernel
theorem dL_law_856 : decode cL_law 856 = .ok (.iadd, 1) := by decide +kernel
theorem dL_law_857 : decode cL_law 857 = .ok (.iaload, 1) := by decide +kernel
theorem dL_law_858 : decode cL_law 858 = .ok (.invokevirtual 93, 3) := by decide +kernel
theorem dL_law_861 : decode cL_law 861 = .ok (.aload_n 2, 1) := by decide +kernel
theorem dL_law_862 : decode cL_law 862 = .ok (.aload_n 0, 1) := by decide +kernel
theorem dL_law_863 : decode cL_law 863 = .ok (.iload_n 3, 1) := by decide +kernel
theorem dL_law_864 : decode cL_law 864 = .ok (.iconst 1, 1) := by decide +kernel
theorem dL_law_865 : decode cL_law 865 = .ok (.iadd, 1) := by decide +kernel
theorem dL_law_866 : decode cL_law 866 = .ok (.iaload, 1) := by decide +kernel
theorem dL_law_867 : decode cL_law 867 = .ok (.aload_n 0, 1) := by decide +kernel
theorem dL_law_868 : decode cL_law 868 = .ok (.iload_n 3, 1) := by decide +kernel
theorem dL_law_869 : decode cL_law 869 = .ok (.iconst 2, 1) := by decide +kernel
theorem dL_law_870 : decode cL_law 870 = .ok (.iadd, 1) := by decide +kernel
theorem dL_law_871 : decode cL_law 871 = .ok (.iaload, 1) := by decide +kernel
theorem dL_law_872 : decode cL_law 872 = .ok (.aload_n 0, 1) := by decide +kernel
theorem dL_law_873 : decode cL_law 873 = .ok (.iload_n 3, 1) := by decide +kernel
theorem dL_law_874 : decode cL_law 874 = .ok (.iconst 3, 1) := by decide +kernel
theorem dL_law_875 : decode cL_law 875 = .ok (.iadd, 1) := by decide +kernel
theorem dL_law_876 : decode cL_law 876 = .ok (.iaload, 1) := by decide +kernel
theorem dL_law_877 : decode cL_law 877 = .ok (.aload_n 0, 1) := by decide +kernel
theorem dL_law_878 : decode cL_law 878 = .ok (.iload_n 3, 1) := by decide +kernel
theorem dL_law_879 : decode cL_law 879 = .ok (.iconst 4, 1) := by decide +kernel
theorem dL_law_880 : decode cL_law 880 = .ok (.iadd, 1) := by decide +kernel
theorem dL_law_881 : decode cL_law 881 = .ok (.iaload, 1) := by decide +kernel
theorem dL_law_882 : decode cL_law 882 = .ok (.aload_n 0, 1) := by decide +kernel
theorem dL_law_883 : decode cL_law 883 = .ok (.iload_n 3, 1) := by decide +kernel
theorem dL_law_884 : decode cL_law 884 = .ok (.iconst 5, 1) := by decide +kernel
theorem dL_law_885 : decode cL_law 885 = .ok (.iadd, 1) := by decide +kernel
theorem dL_law_886 : decode cL_law 886 = .ok (.iaload, 1) := by decide +kernel
theorem dL_law_887 : decode cL_law 887 = .ok (.invokevirtual 96, 3) := by decide +kernel
theorem dL_law_890 : decode cL_law 890 = .ok (.if_icmp .eq 28, 3) := by decide +kernel
theorem dL_law_893 : decode cL_law 893 = .ok (.iconst 0, 1) := by decide +kernel
theorem dL_law_894 : decode cL_law 894 = .ok (.ireturn, 1) := by decide +kernel
theorem dL_law_895 : decode cL_law 895 = .ok (.aload_n 1, 1) := by decide +kernel
theorem dL_law_896 : decode cL_law 896 = .ok (.aload_n 0, 1) := by decide +kernel
theorem dL_law_897 : decode cL_law 897 = .ok (.iload_n 3, 1) := by decide +kernel
theorem dL_law_898 : decode cL_law 898 = .ok (.iconst 1, 1) := by decide +kernel
theorem dL_law_899 : decode cL_law 899 = .ok (.iadd, 1) := by decide +kernel
theorem dL_law_900 : decode cL_law 900 = .ok (.iaload, 1) := by decide +kernel
theorem dL_law_901 : decode cL_law 901 = .ok (.invokevirtual 97, 3) := by decide +kernel
theorem dL_law_904 : decode cL_law 904 = .ok (.aload_n 2, 1) := by decide +kernel
theorem dL_law_905 : decode cL_law 905 = .ok (.aload_n 0, 1) := by decide +kernel
theorem dL_law_906 : decode cL_law 906 = .ok (.iload_n 3, 1) := by decide +kernel
theorem dL_law_907 : decode cL_law 907 = .ok (.iconst 1, 1) := by decide +kernel
theorem dL_law_908 : decode cL_law 908 = .ok (.iadd, 1) := by decide +kernel
theorem dL_law_909 : decode cL_law 909 = .ok (.iaload, 1) := by decide +kernel
theorem dL_law_910 : decode cL_law 910 = .ok (.invokevirtual 100, 3) := by decide +kernel
theorem dL_law_913 : decode cL_law 913 = .ok (.if_icmp .eq 5, 3) := by decide +kernel
theorem dL_law_916 : decode cL_law 916 = .ok (.iconst 0, 1) := by decide +kernel
theorem dL_law_917 : decode cL_law 917 = .ok (.ireturn, 1) := by decide +kernel
theorem dL_law_918 : decode cL_law 918 = .ok (.iinc 3 6, 3) := by decide +kernel
theorem dL_law_921 : decode cL_law 921 = .ok (.goto (-903), 3) := by decide +kernel
theorem dL_law_924 : decode cL_law 924 = .ok (.iconst 1, 1) := by decide +kernel
theorem dL_law_925 : decode cL_law 925 = .ok (.ireturn, 1) := by decide +kernel
