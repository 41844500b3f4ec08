theorem dX0_init_0 : decode cX0_init 0 = .ok (.aload_n 0, 1) := by decide +kernel
theorem dX0_init_1 : decode cX0_init 1 = .ok (.invokespecial 1, 3) := by decide +kernel
theorem dX0_init_4 : decode cX0_init 4 = .ok (.aload_n 0, 1) := by decide +kernel
theorem dX0_init_5 : decode cX0_init 5 = .ok (.iload_n 1, 1) := by decide +kernel
theorem dX0_init_6 : decode cX0_init 6 = .ok (.invokestatic 7, 3) := by decide +kernel
theorem dX0_init_9 : decode cX0_init 9 = .ok (.putfield 13, 3) := by decide +kernel
theorem dX0_init_12 : decode cX0_init 12 = .ok (.aload_n 0, 1) := by decide +kernel
theorem dX0_init_13 : decode cX0_init 13 = .ok (.iload_n 2, 1) := by decide +kernel
theorem dX0_init_14 : decode cX0_init 14 = .ok (.invokestatic 7, 3) := by decide +kernel
theorem dX0_init_17 : decode cX0_init 17 = .ok (.putfield 17, 3) := by decide +kernel
theorem dX0_init_20 : decode cX0_init 20 = .ok (.aload_n 0, 1) := by decide +kernel
theorem dX0_init_21 : decode cX0_init 21 = .ok (.aload_n 0, 1) := by decide +kernel
theorem dX0_init_22 : decode cX0_init 22 = .ok (.getfield 13, 3) := by decide +kernel
theorem dX0_init_25 : decode cX0_init 25 = .ok (.aload_n 0, 1) := by decide +kernel
theorem dX0_init_26 : decode cX0_init 26 = .ok (.getfield 17, 3) := by decide +kernel
theorem dX0_init_29 : decode cX0_init 29 = .ok (.imul, 1) := by decide +kernel
theorem dX0_init_30 : decode cX0_init 30 = .ok (.putfield 20, 3) := by decide +kernel
theorem dX0_init_33 : decode cX0_init 33 = .ok (.aload_n 0, 1) := by decide +kernel
theorem dX0_init_34 : decode cX0_init 34 = .ok (.aload_n 0, 1) := by decide +kernel
theorem dX0_init_35 : decode cX0_init 35 = .ok (.getfield 20, 3) := by decide +kernel
theorem dX0_init_38 : decode cX0_init 38 = .ok (.newarray .int, 2) := by decide +kernel
theorem dX0_init_40 : decode cX0_init 40 = .ok (.putfield 23, 3) := by decide +kernel
theorem dX0_init_43 : decode cX0_init 43 = .ok (.aload_n 0, 1) := by decide +kernel
theorem dX0_init_44 : decode cX0_init 44 = .ok (.aload_n 0, 1) := by decide +kernel
theorem dX0_init_45 : decode cX0_init 45 = .ok (.getfield 20, 3) := by decide +kernel
theorem dX0_init_48 : decode cX0_init 48 = .ok (.newarray .boolean, 2) := by decide +kernel
theorem dX0_init_50 : decode cX0_init 50 = .ok (.putfield 27, 3) := by decide +kernel
theorem dX0_init_53 : decode cX0_init 53 = .ok (.aload_n 0, 1) := by decide +kernel
theorem dX0_init_54 : decode cX0_init 54 = .ok (.sipush 256, 3) := by decide +kernel
theorem dX0_init_57 : decode cX0_init 57 = .ok (.newarray .int, 2) := by decide +kernel
theorem dX0_init_59 : decode cX0_init 59 = .ok (.putfield 31, 3) := by decide +kernel
theorem dX0_init_62 : decode cX0_init 62 = .ok (.aload_n 0, 1) := by decide +kernel
theorem dX0_init_63 : decode cX0_init 63 = .ok (.aload_n 0, 1) := by decide +kernel
theorem dX0_init_64 : decode cX0_init 64 = .ok (.getfield 20, 3) := by decide +kernel
theorem dX0_init_67 : decode cX0_init 67 = .ok (.newarray .int, 2) := by decide +kernel
theorem dX0_init_69 : decode cX0_init 69 = .ok (.putfield 34, 3) := by decide +kernel
theorem dX0_init_72 : decode cX0_init 72 = .ok (.aload_n 0, 1) := by decide +kernel
theorem dX0_init_73 : decode cX0_init 73 = .ok (.aload_n 0, 1) := by decide +kernel
theorem dX0_init_74 : decode cX0_init 74 = .ok (.getfield 13, 3) := by decide +kernel
theorem dX0_init_77 : decode cX0_init 77 = .ok (.iconst 1, 1) := by decide +kernel
theorem dX0_init_78 : decode cX0_init 78 = .ok (.iadd, 1) := by decide +kernel
theorem dX0_init_79 : decode cX0_init 79 = .ok (.aload_n 0, 1) := by decide +kernel
theorem dX0_init_80 : decode cX0_init 80 = .ok (.getfield 17, 3) := by decide +kernel
theorem dX0_init_83 : decode cX0_init 83 = .ok (.iconst 1, 1) := by decide +kernel
theorem dX0_init_84 : decode cX0_init 84 = .ok (.iadd, 1) := by decide +kernel
theorem dX0_init_85 : decode cX0_init 85 = .ok (.imul, 1) := by decide +kernel
theorem dX0_init_86 : decode cX0_init 86 = .ok (.newarray .long, 2) := by decide +kernel
theorem dX0_init_88 : decode cX0_init 88 = .ok (.putfield 37, 3) := by decide +kernel
theorem dX0_init_91 : decode cX0_init 91 = .ok (.aload_n 0, 1) := by decide +kernel
theorem dX0_init_92 : decode cX0_init 92 = .ok (.aload_n 0, 1) := by decide +kernel
theorem dX0_init_93 : decode cX0_init 93 = .ok (.getfield 13, 3) := by decide +kernel
theorem dX0_init_96 : decode cX0_init 96 = .ok (.iconst 1, 1) := by decide +kernel
theorem dX0_init_97 : decode cX0_init 97 = .ok (.iadd, 1) := by decide +kernel
theorem dX0_init_98 : decode cX0_init 98 = .ok (.aload_n 0, 1) := by decide +kernel
theorem dX0_init_99 : decode cX0_init 99 = .ok (.getfield 17, 3) := by decide +kernel
theorem dX0_init_102 : decode cX0_init 102 = .ok (.iconst 1, 1) := by decide +kernel
theorem dX0_init_103 : decode cX0_init 103 = .ok (.iadd, 1) := by decide +kernel
theorem dX0_init_104 : decode cX0_init 104 = .ok (.imul, 1) := by decide +kernel
theorem dX0_init_105 : decode cX0_init 105 = .ok (.newarray .long, 2) := by decide +kernel
theorem dX0_init_107 : decode cX0_init 107 = .ok (.putfield 41, 3) := by decide +kernel
theorem dX0_init_110 : decode cX0_init 110 = .ok (.aload_n 0, 1) := by decide +kernel
theorem dX0_init_111 : decode cX0_init 111 = .ok (.aload_n 0, 1) := by decide +kernel
theorem dX0_init_112 : decode cX0_init 112 = .ok (.getfield 20, 3) := by decide +kernel
theorem dX0_init_115 : decode cX0_init 115 = .ok (.newarray .boolean, 2) := by decide +kernel
theorem dX0_init_117 : decode cX0_init 117 = .ok (.putfield 44, 3) := by decide +kernel
theorem dX0_init_120 : decode cX0_init 120 = .ok (.aload_n 0, 1) := by decide +kernel
theorem dX0_init_121 : decode cX0_init 121 = .ok (.aload_n 0, 1) := by decide +kernel
theorem dX0_init_122 : decode cX0_init 122 = .ok (.getfield 20, 3) := by decide +kernel
theorem dX0_init_125 : decode cX0_init 125 = .ok (.newarray .int, 2) := by decide +kernel
theorem dX0_init_127 : decode cX0_init 127 = .ok (.putfield 47, 3) := by decide +kernel
theorem dX0_init_130 : decode cX0_init 130 = .ok (.return_, 1) := by decide +kernel
theorem dX0_put_0 : decode cX0_put 0 = .ok (.aload_n 0, 1) := by decide +kernel
theorem dX0_put_1 : decode cX0_put 1 = .ok (.iload_n 1, 1) := by decide +kernel
theorem dX0_put_2 : decode cX0_put 2 = .ok (.iload_n 2, 1) := by decide +kernel
theorem dX0_put_3 : decode cX0_put 3 = .ok (.invokevirtual 50, 3) := by decide +kernel
theorem dX0_put_6 : decode cX0_put 6 = .ok (.ifCond .ne 13, 3) := by decide +kernel
theorem dX0_put_9 : decode cX0_put 9 = .ok (.new 54, 3) := by decide +kernel
theorem dX0_put_12 : decode cX0_put 12 = .ok (.dup, 1) := by decide +kernel
theorem dX0_put_13 : decode cX0_put 13 = .ok (.ldc 56, 2) := by decide +kernel
theorem dX0_put_15 : decode cX0_put 15 = .ok (.invokespecial 58, 3) := by decide +kernel
theorem dX0_put_18 : decode cX0_put 18 = .ok (.athrow, 1) := by decide +kernel
theorem dX0_put_19 : decode cX0_put 19 = .ok (.iload_n 3, 1) := by decide +kernel
theorem dX0_put_20 : decode cX0_put 20 = .ok (.ifCond .lt 10, 3) := by decide +kernel
theorem dX0_put_23 : decode cX0_put 23 = .ok (.iload_n 3, 1) := by decide +kernel
theorem dX0_put_24 : decode cX0_put 24 = .ok (.sipush 255, 3) := by decide +kernel
theorem dX0_put_27 : decode cX0_put 27 = .ok (.if_icmp .le 13, 3) := by decide +kernel
theorem dX0_put_30 : decode cX0_put 30 = .ok (.new 61, 3) := by decide +kernel
theorem dX0_put_33 : decode cX0_put 33 = .ok (.dup, 1) := by decide +kernel
theorem dX0_put_34 : decode cX0_put 34 = .ok (.ldc 63, 2) := by decide +kernel
theorem dX0_put_36 : decode cX0_put 36 = .ok (.invokespecial 65, 3) := by decide +kernel
theorem dX0_put_39 : decode cX0_put 39 = .ok (.athrow, 1) := by decide +kernel
theorem dX0_put_40 : decode cX0_put 40 = .ok (.aload_n 0, 1) := by decide +kernel
theorem dX0_put_41 : decode cX0_put 41 = .ok (.iload_n 1, 1) := by decide +kernel
theorem dX0_put_42 : decode cX0_put 42 = .ok (.iload_n 2, 1) := by decide +kernel
theorem dX0_put_43 : decode cX0_put 43 = .ok (.invokevirtual 66, 3) := by decide +kernel
theorem dX0_put_46 : decode cX0_put 46 = .ok (.istore 4, 2) := by decide +kernel
theorem dX0_put_48 : decode cX0_put 48 = .ok (.aload_n 0, 1) := by decide +kernel
theorem dX0_put_49 : decode cX0_put 49 = .ok (.getfield 23, 3) := by decide +kernel
theorem dX0_put_52 : decode cX0_put 52 = .ok (.iload 4, 2) := by decide +kernel
theorem dX0_put_54 : decode cX0_put 54 = .ok (.iaload, 1) := by decide +kernel
theorem dX0_put_55 : decode cX0_put 55 = .ok (.istore 5, 2) := by decide +kernel
theorem dX0_put_57 : decode cX0_put 57 = .ok (.aload_n 0, 1) := by decide +kernel
theorem dX0_put_58 : decode cX0_put 58 = .ok (.getfield 23, 3) := by decide +kernel
theorem dX0_put_61 : decode cX0_put 61 = .ok (.iload 4, 2) := by decide +kernel
theorem dX0_put_63 : decode cX0_put 63 = .ok (.iload_n 3, 1) := by decide +kernel
theorem dX0_put_64 : decode cX0_put 64 = .ok (.iastore, 1) := by decide +kernel
theorem dX0_put_65 : decode cX0_put 65 = .ok (.iload 5, 2) := by decide +kernel
theorem dX0_put_67 : decode cX0_put 67 = .ok (.ireturn, 1) := by decide +kernel
theorem dX0_paint_0 : decode cX0_paint 0 = .ok (.iconst 0, 1) := by decide +kernel
theorem dX0_paint_1 : decode cX0_paint 1 = .ok (.istore_n 3, 1) := by decide +kernel
theorem dX0_paint_2 : decode cX0_paint 2 = .ok (.iload_n 1, 1) := by decide +kernel
theorem dX0_paint_3 : decode cX0_paint 3 = .ok (.istore 4, 2) := by decide +kernel
theorem dX0_paint_5 : decode cX0_paint 5 = .ok (.iconst 0, 1) := by decide +kernel
theorem dX0_paint_6 : decode cX0_paint 6 = .ok (.istore 5, 2) := by decide +kernel
theorem dX0_paint_8 : decode cX0_paint 8 = .ok (.iload 5, 2) := by decide +kernel
theorem dX0_paint_10 : decode cX0_paint 10 = .ok (.aload_n 0, 1) := by decide +kernel
theorem dX0_paint_11 : decode cX0_paint 11 = .ok (.getfield 20, 3) := by decide +kernel
theorem dX0_paint_14 : decode cX0_paint 14 = .ok (.if_icmp .ge 49, 3) := by decide +kernel
theorem dX0_paint_17 : decode cX0_paint 17 = .ok (.iload 4, 2) := by decide +kernel
theorem dX0_paint_19 : decode cX0_paint 19 = .ok (.sipush 256, 3) := by decide +kernel
theorem dX0_paint_22 : decode cX0_paint 22 = .ok (.invokestatic 70, 3) := by decide +kernel
theorem dX0_paint_25 : decode cX0_paint 25 = .ok (.istore 6, 2) := by decide +kernel
theorem dX0_paint_27 : decode cX0_paint 27 = .ok (.aload_n 0, 1) := by decide +kernel
theorem dX0_paint_28 : decode cX0_paint 28 = .ok (.getfield 23, 3) := by decide +kernel
theorem dX0_paint_31 : decode cX0_paint 31 = .ok (.iload 5, 2) := by decide +kernel
theorem dX0_paint_33 : decode cX0_paint 33 = .ok (.iaload, 1) := by decide +kernel
theorem dX0_paint_34 : decode cX0_paint 34 = .ok (.iload 6, 2) := by decide +kernel
theorem dX0_paint_36 : decode cX0_paint 36 = .ok (.if_icmp .eq 6, 3) := by decide +kernel
theorem dX0_paint_39 : decode cX0_paint 39 = .ok (.iinc 3 1, 3) := by decide +kernel
theorem dX0_paint_42 : decode cX0_paint 42 = .ok (.aload_n 0, 1) := by decide +kernel
theorem dX0_paint_43 : decode cX0_paint 43 = .ok (.getfield 23, 3) := by decide +kernel
theorem dX0_paint_46 : decode cX0_paint 46 = .ok (.iload 5, 2) := by decide +kernel
theorem dX0_paint_48 : decode cX0_paint 48 = .ok (.iload 6, 2) := by decide +kernel
theorem dX0_paint_50 : decode cX0_paint 50 = .ok (.iastore, 1) := by decide +kernel
theorem dX0_paint_51 : decode cX0_paint 51 = .ok (.iload 4, 2) := by decide +kernel
theorem dX0_paint_53 : decode cX0_paint 53 = .ok (.iload_n 2, 1) := by decide +kernel
theorem dX0_paint_54 : decode cX0_paint 54 = .ok (.iadd, 1) := by decide +kernel
theorem dX0_paint_55 : decode cX0_paint 55 = .ok (.istore 4, 2) := by decide +kernel
theorem dX0_paint_57 : decode cX0_paint 57 = .ok (.iinc 5 1, 3) := by decide +kernel
theorem dX0_paint_60 : decode cX0_paint 60 = .ok (.goto (-52), 3) := by decide +kernel
theorem dX0_paint_63 : decode cX0_paint 63 = .ok (.iload_n 3, 1) := by decide +kernel
theorem dX0_paint_64 : decode cX0_paint 64 = .ok (.ireturn, 1) := by decide +kernel
theorem dX0_global_0 : decode cX0_global 0 = .ok (.aload_n 0, 1) := by decide +kernel
theorem dX0_global_1 : decode cX0_global 1 = .ok (.invokevirtual 75, 3) := by decide +kernel
theorem dX0_global_4 : decode cX0_global 4 = .ok (.istore_n 1, 1) := by decide +kernel
theorem dX0_global_5 : decode cX0_global 5 = .ok (.iconst 0, 1) := by decide +kernel
theorem dX0_global_6 : decode cX0_global 6 = .ok (.istore_n 2, 1) := by decide +kernel
theorem dX0_global_7 : decode cX0_global 7 = .ok (.iload_n 2, 1) := by decide +kernel
theorem dX0_global_8 : decode cX0_global 8 = .ok (.aload_n 0, 1) := by decide +kernel
theorem dX0_global_9 : decode cX0_global 9 = .ok (.getfield 20, 3) := by decide +kernel
theorem dX0_global_12 : decode cX0_global 12 = .ok (.if_icmp .ge 30, 3) := by decide +kernel
theorem dX0_global_15 : decode cX0_global 15 = .ok (.aload_n 0, 1) := by decide +kernel
theorem dX0_global_16 : decode cX0_global 16 = .ok (.getfield 27, 3) := by decide +kernel
theorem dX0_global_19 : decode cX0_global 19 = .ok (.iload_n 2, 1) := by decide +kernel
theorem dX0_global_20 : decode cX0_global 20 = .ok (.aload_n 0, 1) := by decide +kernel
theorem dX0_global_21 : decode cX0_global 21 = .ok (.getfield 23, 3) := by decide +kernel
theorem dX0_global_24 : decode cX0_global 24 = .ok (.iload_n 2, 1) := by decide +kernel
theorem dX0_global_25 : decode cX0_global 25 = .ok (.iaload, 1) := by decide +kernel
theorem dX0_global_26 : decode cX0_global 26 = .ok (.iload_n 1, 1) := by decide +kernel
theorem dX0_global_27 : decode cX0_global 27 = .ok (.if_icmp .gt 7, 3) := by decide +kernel
theorem dX0_global_30 : decode cX0_global 30 = .ok (.iconst 1, 1) := by decide +kernel
theorem dX0_global_31 : decode cX0_global 31 = .ok (.goto 4, 3) := by decide +kernel
theorem dX0_global_34 : decode cX0_global 34 = .ok (.iconst 0, 1) := by decide +kernel
theorem dX0_global_35 : decode cX0_global 35 = .ok (.bastore, 1) := by decide +kernel
theorem dX0_global_36 : decode cX0_global 36 = .ok (.iinc 2 1, 3) := by decide +kernel
theorem dX0_global_39 : decode cX0_global 39 = .ok (.goto (-32), 3) := by decide +kernel
theorem dX0_global_42 : decode cX0_global 42 = .ok (.iload_n 1, 1) := by decide +kernel
theorem dX0_global_43 : decode cX0_global 43 = .ok (.ireturn, 1) := by decide +kernel
theorem dX0_local_0 : decode cX0_local 0 = .ok (.iload_n 1, 1) := by decide +kernel
theorem dX0_local_1 : decode cX0_local 1 = .ok (.iconst 1, 1) := by decide +kernel
theorem dX0_local_2 : decode cX0_local 2 = .ok (.if_icmp .lt 15, 3) := by decide +kernel
theorem dX0_local_5 : decode cX0_local 5 = .ok (.iload_n 1, 1) := by decide +kernel
theorem dX0_local_6 : decode cX0_local 6 = .ok (.bipush 31, 2) := by decide +kernel
theorem dX0_local_8 : decode cX0_local 8 = .ok (.if_icmp .gt 9, 3) := by decide +kernel
theorem dX0_local_11 : decode cX0_local 11 = .ok (.iload_n 1, 1) := by decide +kernel
theorem dX0_local_12 : decode cX0_local 12 = .ok (.iconst 2, 1) := by decide +kernel
theorem dX0_local_13 : decode cX0_local 13 = .ok (.irem, 1) := by decide +kernel
theorem dX0_local_14 : decode cX0_local 14 = .ok (.ifCond .ne 13, 3) := by decide +kernel
theorem dX0_local_17 : decode cX0_local 17 = .ok (.new 61, 3) := by decide +kernel
theorem dX0_local_20 : decode cX0_local 20 = .ok (.dup, 1) := by decide +kernel
theorem dX0_local_21 : decode cX0_local 21 = .ok (.ldc 79, 2) := by decide +kernel
theorem dX0_local_23 : decode cX0_local 23 = .ok (.invokespecial 65, 3) := by decide +kernel
theorem dX0_local_26 : decode cX0_local 26 = .ok (.athrow, 1) := by decide +kernel
theorem dX0_local_27 : decode cX0_local 27 = .ok (.iload_n 2, 1) := by decide +kernel
theorem dX0_local_28 : decode cX0_local 28 = .ok (.ifCond .lt 9, 3) := by decide +kernel
theorem dX0_local_31 : decode cX0_local 31 = .ok (.iload_n 2, 1) := by decide +kernel
theorem dX0_local_32 : decode cX0_local 32 = .ok (.bipush 64, 2) := by decide +kernel
theorem dX0_local_34 : decode cX0_local 34 = .ok (.if_icmp .le 13, 3) := by decide +kernel
theorem dX0_local_37 : decode cX0_local 37 = .ok (.new 61, 3) := by decide +kernel
theorem dX0_local_40 : decode cX0_local 40 = .ok (.dup, 1) := by decide +kernel
theorem dX0_local_41 : decode cX0_local 41 = .ok (.ldc 81, 2) := by decide +kernel
theorem dX0_local_43 : decode cX0_local 43 = .ok (.invokespecial 65, 3) := by decide +kernel
theorem dX0_local_46 : decode cX0_local 46 = .ok (.athrow, 1) := by decide +kernel
theorem dX0_local_47 : decode cX0_local 47 = .ok (.aload_n 0, 1) := by decide +kernel
theorem dX0_local_48 : decode cX0_local 48 = .ok (.invokevirtual 83, 3) := by decide +kernel
theorem dX0_local_51 : decode cX0_local 51 = .ok (.iload_n 1, 1) := by decide +kernel
theorem dX0_local_52 : decode cX0_local 52 = .ok (.iconst 1, 1) := by decide +kernel
theorem dX0_local_53 : decode cX0_local 53 = .ok (.isub, 1) := by decide +kernel
theorem dX0_local_54 : decode cX0_local 54 = .ok (.iconst 2, 1) := by decide +kernel
theorem dX0_local_55 : decode cX0_local 55 = .ok (.idiv, 1) := by decide +kernel
theorem dX0_local_56 : decode cX0_local 56 = .ok (.istore_n 3, 1) := by decide +kernel
theorem dX0_local_57 : decode cX0_local 57 = .ok (.iconst 0, 1) := by decide +kernel
theorem dX0_local_58 : decode cX0_local 58 = .ok (.istore 4, 2) := by decide +kernel
theorem dX0_local_60 : decode cX0_local 60 = .ok (.iload 4, 2) := by decide +kernel
theorem dX0_local_62 : decode cX0_local 62 = .ok (.aload_n 0, 1) := by decide +kernel
theorem dX0_local_63 : decode cX0_local 63 = .ok (.getfield 17, 3) := by decide +kernel
theorem dX0_local_66 : decode cX0_local 66 = .ok (.if_icmp .ge 50, 3) := by decide +kernel
theorem dX0_local_69 : decode cX0_local 69 = .ok (.iconst 0, 1) := by decide +kernel
theorem dX0_local_70 : decode cX0_local 70 = .ok (.istore 5, 2) := by decide +kernel
theorem dX0_local_72 : decode cX0_local 72 = .ok (.iload 5, 2) := by decide +kernel
theorem dX0_local_74 : decode cX0_local 74 = .ok (.aload_n 0, 1) := by decide +kernel
theorem dX0_local_75 : decode cX0_local 75 = .ok (.getfield 13, 3) := by decide +kernel
theorem dX0_local_78 : decode cX0_local 78 = .ok (.if_icmp .ge 32, 3) := by decide +kernel
theorem dX0_local_81 : decode cX0_local 81 = .ok (.aload_n 0, 1) := by decide +kernel
theorem dX0_local_82 : decode cX0_local 82 = .ok (.getfield 27, 3) := by decide +kernel
theorem dX0_local_85 : decode cX0_local 85 = .ok (.aload_n 0, 1) := by decide +kernel
theorem dX0_local_86 : decode cX0_local 86 = .ok (.iload 5, 2) := by decide +kernel
theorem dX0_local_88 : decode cX0_local 88 = .ok (.iload 4, 2) := by decide +kernel
theorem dX0_local_90 : decode cX0_local 90 = .ok (.invokevirtual 66, 3) := by decide +kernel
theorem dX0_local_93 : decode cX0_local 93 = .ok (.aload_n 0, 1) := by decide +kernel
theorem dX0_local_94 : decode cX0_local 94 = .ok (.iload 5, 2) := by decide +kernel
theorem dX0_local_96 : decode cX0_local 96 = .ok (.iload 4, 2) := by decide +kernel
theorem dX0_local_98 : decode cX0_local 98 = .ok (.iload_n 3, 1) := by decide +kernel
theorem dX0_local_99 : decode cX0_local 99 = .ok (.iload_n 2, 1) := by decide +kernel
theorem dX0_local_100 : decode cX0_local 100 = .ok (.invokevirtual 86, 3) := by decide +kernel
theorem dX0_local_103 : decode cX0_local 103 = .ok (.bastore, 1) := by decide +kernel
theorem dX0_local_104 : decode cX0_local 104 = .ok (.iinc 5 1, 3) := by decide +kernel
theorem dX0_local_107 : decode cX0_local 107 = .ok (.goto (-35), 3) := by decide +kernel
theorem dX0_local_110 : decode cX0_local 110 = .ok (.iinc 4 1, 3) := by decide +kernel
theorem dX0_local_113 : decode cX0_local 113 = .ok (.goto (-53), 3) := by decide +kernel
theorem dX0_local_116 : decode cX0_local 116 = .ok (.aload_n 0, 1) := by decide +kernel
theorem dX0_local_117 : decode cX0_local 117 = .ok (.invokevirtual 90, 3) := by decide +kernel
theorem dX0_local_120 : decode cX0_local 120 = .ok (.ireturn, 1) := by decide +kernel
theorem dX0_spread_0 : decode cX0_spread 0 = .ok (.iload_n 1, 1) := by decide +kernel
theorem dX0_spread_1 : decode cX0_spread 1 = .ok (.ifCond .lt 8, 3) := by decide +kernel
theorem dX0_spread_4 : decode cX0_spread 4 = .ok (.iload_n 1, 1) := by decide +kernel
theorem dX0_spread_5 : decode cX0_spread 5 = .ok (.iconst 2, 1) := by decide +kernel
theorem dX0_spread_6 : decode cX0_spread 6 = .ok (.if_icmp .le 13, 3) := by decide +kernel
theorem dX0_spread_9 : decode cX0_spread 9 = .ok (.new 61, 3) := by decide +kernel
theorem dX0_spread_12 : decode cX0_spread 12 = .ok (.dup, 1) := by decide +kernel
theorem dX0_spread_13 : decode cX0_spread 13 = .ok (.ldc 93, 2) := by decide +kernel
theorem dX0_spread_15 : decode cX0_spread 15 = .ok (.invokespecial 65, 3) := by decide +kernel
theorem dX0_spread_18 : decode cX0_spread 18 = .ok (.athrow, 1) := by decide +kernel
theorem dX0_spread_19 : decode cX0_spread 19 = .ok (.aload_n 0, 1) := by decide +kernel
theorem dX0_spread_20 : decode cX0_spread 20 = .ok (.getfield 34, 3) := by decide +kernel
theorem dX0_spread_23 : decode cX0_spread 23 = .ok (.iconst 0, 1) := by decide +kernel
theorem dX0_spread_24 : decode cX0_spread 24 = .ok (.invokestatic 95, 3) := by decide +kernel
theorem dX0_spread_27 : decode cX0_spread 27 = .ok (.aload_n 0, 1) := by decide +kernel
theorem dX0_spread_28 : decode cX0_spread 28 = .ok (.lconst 0, 1) := by decide +kernel
theorem dX0_spread_29 : decode cX0_spread 29 = .ok (.putfield 101, 3) := by decide +kernel
theorem dX0_spread_32 : decode cX0_spread 32 = .ok (.iconst 0, 1) := by decide +kernel
theorem dX0_spread_33 : decode cX0_spread 33 = .ok (.istore_n 2, 1) := by decide +kernel
theorem dX0_spread_34 : decode cX0_spread 34 = .ok (.iload_n 2, 1) := by decide +kernel
theorem dX0_spread_35 : decode cX0_spread 35 = .ok (.aload_n 0, 1) := by decide +kernel
theorem dX0_spread_36 : decode cX0_spread 36 = .ok (.getfield 17, 3) := by decide +kernel
theorem dX0_spread_39 : decode cX0_spread 39 = .ok (.if_icmp .ge 15, 3) := by decide +kernel
theorem dX0_spread_42 : decode cX0_spread 42 = .ok (.aload_n 0, 1) := by decide +kernel
theorem dX0_spread_43 : decode cX0_spread 43 = .ok (.iload_n 2, 1) := by decide +kernel
theorem dX0_spread_44 : decode cX0_spread 44 = .ok (.iload_n 1, 1) := by decide +kernel
theorem dX0_spread_45 : decode cX0_spread 45 = .ok (.invokevirtual 105, 3) := by decide +kernel
theorem dX0_spread_48 : decode cX0_spread 48 = .ok (.iinc 2 1, 3) := by decide +kernel
theorem dX0_spread_51 : decode cX0_spread 51 = .ok (.goto (-17), 3) := by decide +kernel
theorem dX0_spread_54 : decode cX0_spread 54 = .ok (.aload_n 0, 1) := by decide +kernel
theorem dX0_spread_55 : decode cX0_spread 55 = .ok (.invokevirtual 90, 3) := by decide +kernel
theorem dX0_spread_58 : decode cX0_spread 58 = .ok (.ireturn, 1) := by decide +kernel
theorem dX0_rest_0 : decode cX0_rest 0 = .ok (.aload_n 0, 1) := by decide +kernel
theorem dX0_rest_1 : decode cX0_rest 1 = .ok (.getfield 101, 3) := by decide +kernel
theorem dX0_rest_4 : decode cX0_rest 4 = .ok (.lreturn, 1) := by decide +kernel
theorem dX0_ordered_0 : decode cX0_ordered 0 = .ok (.iload_n 1, 1) := by decide +kernel
theorem dX0_ordered_1 : decode cX0_ordered 1 = .ok (.invokestatic 109, 3) := by decide +kernel
theorem dX0_ordered_4 : decode cX0_ordered 4 = .ok (.ifCond .ne 13, 3) := by decide +kernel
theorem dX0_ordered_7 : decode cX0_ordered 7 = .ok (.new 61, 3) := by decide +kernel
theorem dX0_ordered_10 : decode cX0_ordered 10 = .ok (.dup, 1) := by decide +kernel
theorem dX0_ordered_11 : decode cX0_ordered 11 = .ok (.ldc 113, 2) := by decide +kernel
theorem dX0_ordered_13 : decode cX0_ordered 13 = .ok (.invokespecial 65, 3) := by decide +kernel
theorem dX0_ordered_16 : decode cX0_ordered 16 = .ok (.athrow, 1) := by decide +kernel
theorem dX0_ordered_17 : decode cX0_ordered 17 = .ok (.iconst 0, 1) := by decide +kernel
theorem dX0_ordered_18 : decode cX0_ordered 18 = .ok (.istore_n 2, 1) := by decide +kernel
theorem dX0_ordered_19 : decode cX0_ordered 19 = .ok (.iload_n 2, 1) := by decide +kernel
theorem dX0_ordered_20 : decode cX0_ordered 20 = .ok (.aload_n 0, 1) := by decide +kernel
theorem dX0_ordered_21 : decode cX0_ordered 21 = .ok (.getfield 17, 3) := by decide +kernel
theorem dX0_ordered_24 : decode cX0_ordered 24 = .ok (.if_icmp .ge 79, 3) := by decide +kernel
theorem dX0_ordered_27 : decode cX0_ordered 27 = .ok (.iconst 0, 1) := by decide +kernel
theorem dX0_ordered_28 : decode cX0_ordered 28 = .ok (.istore_n 3, 1) := by decide +kernel
theorem dX0_ordered_29 : decode cX0_ordered 29 = .ok (.iload_n 3, 1) := by decide +kernel
theorem dX0_ordered_30 : decode cX0_ordered 30 = .ok (.aload_n 0, 1) := by decide +kernel
theorem dX0_ordered_31 : decode cX0_ordered 31 = .ok (.getfield 13, 3) := by decide +kernel
theorem dX0_ordered_34 : decode cX0_ordered 34 = .ok (.if_icmp .ge 63, 3) := by decide +kernel
theorem dX0_ordered_37 : decode cX0_ordered 37 = .ok (.aload_n 0, 1) := by decide +kernel
theorem dX0_ordered_38 : decode cX0_ordered 38 = .ok (.iload_n 3, 1) := by decide +kernel
theorem dX0_ordered_39 : decode cX0_ordered 39 = .ok (.iload_n 2, 1) := by decide +kernel
theorem dX0_ordered_40 : decode cX0_ordered 40 = .ok (.invokevirtual 66, 3) := by decide +kernel
theorem dX0_ordered_43 : decode cX0_ordered 43 = .ok (.istore 4, 2) := by decide +kernel
theorem dX0_ordered_45 : decode cX0_ordered 45 = .ok (.sipush 256, 3) := by decide +kernel
theorem dX0_ordered_48 : decode cX0_ordered 48 = .ok (.iconst 2, 1) := by decide +kernel
theorem dX0_ordered_49 : decode cX0_ordered 49 = .ok (.iload_n 1, 1) := by decide +kernel
theorem dX0_ordered_50 : decode cX0_ordered 50 = .ok (.iload_n 3, 1) := by decide +kernel
theorem dX0_ordered_51 : decode cX0_ordered 51 = .ok (.iload_n 2, 1) := by decide +kernel
theorem dX0_ordered_52 : decode cX0_ordered 52 = .ok (.invokestatic 115, 3) := by decide +kernel
theorem dX0_ordered_55 : decode cX0_ordered 55 = .ok (.imul, 1) := by decide +kernel
theorem dX0_ordered_56 : decode cX0_ordered 56 = .ok (.iconst 1, 1) := by decide +kernel
theorem dX0_ordered_57 : decode cX0_ordered 57 = .ok (.iadd, 1) := by decide +kernel
theorem dX0_ordered_58 : decode cX0_ordered 58 = .ok (.imul, 1) := by decide +kernel
theorem dX0_ordered_59 : decode cX0_ordered 59 = .ok (.istore 5, 2) := by decide +kernel
theorem dX0_ordered_61 : decode cX0_ordered 61 = .ok (.aload_n 0, 1) := by decide +kernel
theorem dX0_ordered_62 : decode cX0_ordered 62 = .ok (.getfield 27, 3) := by decide +kernel
theorem dX0_ordered_65 : decode cX0_ordered 65 = .ok (.iload 4, 2) := by decide +kernel
theorem dX0_ordered_67 : decode cX0_ordered 67 = .ok (.iconst 2, 1) := by decide +kernel
theorem dX0_ordered_68 : decode cX0_ordered 68 = .ok (.iload_n 1, 1) := by decide +kernel
theorem dX0_ordered_69 : decode cX0_ordered 69 = .ok (.imul, 1) := by decide +kernel
theorem dX0_ordered_70 : decode cX0_ordered 70 = .ok (.iload_n 1, 1) := by decide +kernel
theorem dX0_ordered_71 : decode cX0_ordered 71 = .ok (.imul, 1) := by decide +kernel
theorem dX0_ordered_72 : decode cX0_ordered 72 = .ok (.aload_n 0, 1) := by decide +kernel
theorem dX0_ordered_73 : decode cX0_ordered 73 = .ok (.getfield 23, 3) := by decide +kernel
theorem dX0_ordered_76 : decode cX0_ordered 76 = .ok (.iload 4, 2) := by decide +kernel
theorem dX0_ordered_78 : decode cX0_ordered 78 = .ok (.iaload, 1) := by decide +kernel
theorem dX0_ordered_79 : decode cX0_ordered 79 = .ok (.imul, 1) := by decide +kernel
theorem dX0_ordered_80 : decode cX0_ordered 80 = .ok (.iload 5, 2) := by decide +kernel
theorem dX0_ordered_82 : decode cX0_ordered 82 = .ok (.if_icmp .ge 7, 3) := by decide +kernel
theorem dX0_ordered_85 : decode cX0_ordered 85 = .ok (.iconst 1, 1) := by decide +kernel
theorem dX0_ordered_86 : decode cX0_ordered 86 = .ok (.goto 4, 3) := by decide +kernel
theorem dX0_ordered_89 : decode cX0_ordered 89 = .ok (.iconst 0, 1) := by decide +kernel
theorem dX0_ordered_90 : decode cX0_ordered 90 = .ok (.bastore, 1) := by decide +kernel
theorem dX0_ordered_91 : decode cX0_ordered 91 = .ok (.iinc 3 1, 3) := by decide +kernel
theorem dX0_ordered_94 : decode cX0_ordered 94 = .ok (.goto (-65), 3) := by decide +kernel
theorem dX0_ordered_97 : decode cX0_ordered 97 = .ok (.iinc 2 1, 3) := by decide +kernel
theorem dX0_ordered_100 : decode cX0_ordered 100 = .ok (.goto (-81), 3) := by decide +kernel
theorem dX0_ordered_103 : decode cX0_ordered 103 = .ok (.aload_n 0, 1) := by decide +kernel
theorem dX0_ordered_104 : decode cX0_ordered 104 = .ok (.invokevirtual 90, 3) := by decide +kernel
theorem dX0_ordered_107 : decode cX0_ordered 107 = .ok (.ireturn, 1) := by decide +kernel
theorem dX0_join_0 : decode cX0_join 0 = .ok (.iload_n 1, 1) := by decide +kernel
theorem dX0_join_1 : decode cX0_join 1 = .ok (.iconst (-1), 1) := by decide +kernel
theorem dX0_join_2 : decode cX0_join 2 = .ok (.if_icmp .lt 15, 3) := by decide +kernel
theorem dX0_join_5 : decode cX0_join 5 = .ok (.iload_n 1, 1) := by decide +kernel
theorem dX0_join_6 : decode cX0_join 6 = .ok (.iload_n 2, 1) := by decide +kernel
theorem dX0_join_7 : decode cX0_join 7 = .ok (.if_icmp .gt 10, 3) := by decide +kernel
theorem dX0_join_10 : decode cX0_join 10 = .ok (.iload_n 2, 1) := by decide +kernel
theorem dX0_join_11 : decode cX0_join 11 = .ok (.sipush 255, 3) := by decide +kernel
theorem dX0_join_14 : decode cX0_join 14 = .ok (.if_icmp .le 13, 3) := by decide +kernel
theorem dX0_join_17 : decode cX0_join 17 = .ok (.new 61, 3) := by decide +kernel
theorem dX0_join_20 : decode cX0_join 20 = .ok (.dup, 1) := by decide +kernel
theorem dX0_join_21 : decode cX0_join 21 = .ok (.ldc 119, 2) := by decide +kernel
theorem dX0_join_23 : decode cX0_join 23 = .ok (.invokespecial 65, 3) := by decide +kernel
theorem dX0_join_26 : decode cX0_join 26 = .ok (.athrow, 1) := by decide +kernel
theorem dX0_join_27 : decode cX0_join 27 = .ok (.aload_n 0, 1) := by decide +kernel
theorem dX0_join_28 : decode cX0_join 28 = .ok (.iconst 0, 1) := by decide +kernel
theorem dX0_join_29 : decode cX0_join 29 = .ok (.putfield 121, 3) := by decide +kernel
theorem dX0_join_32 : decode cX0_join 32 = .ok (.iconst 0, 1) := by decide +kernel
theorem dX0_join_33 : decode cX0_join 33 = .ok (.istore_n 3, 1) := by decide +kernel
theorem dX0_join_34 : decode cX0_join 34 = .ok (.iload_n 3, 1) := by decide +kernel
theorem dX0_join_35 : decode cX0_join 35 = .ok (.aload_n 0, 1) := by decide +kernel
theorem dX0_join_36 : decode cX0_join 36 = .ok (.getfield 20, 3) := by decide +kernel
theorem dX0_join_39 : decode cX0_join 39 = .ok (.if_icmp .ge 44, 3) := by decide +kernel
theorem dX0_join_42 : decode cX0_join 42 = .ok (.aload_n 0, 1) := by decide +kernel
theorem dX0_join_43 : decode cX0_join 43 = .ok (.getfield 27, 3) := by decide +kernel
theorem dX0_join_46 : decode cX0_join 46 = .ok (.iload_n 3, 1) := by decide +kernel
theorem dX0_join_47 : decode cX0_join 47 = .ok (.aload_n 0, 1) := by decide +kernel
theorem dX0_join_48 : decode cX0_join 48 = .ok (.getfield 23, 3) := by decide +kernel
theorem dX0_join_51 : decode cX0_join 51 = .ok (.iload_n 3, 1) := by decide +kernel
theorem dX0_join_52 : decode cX0_join 52 = .ok (.iaload, 1) := by decide +kernel
theorem dX0_join_53 : decode cX0_join 53 = .ok (.iload_n 1, 1) := by decide +kernel
theorem dX0_join_54 : decode cX0_join 54 = .ok (.if_icmp .gt 7, 3) := by decide +kernel
theorem dX0_join_57 : decode cX0_join 57 = .ok (.iconst 1, 1) := by decide +kernel
theorem dX0_join_58 : decode cX0_join 58 = .ok (.goto 4, 3) := by decide +kernel
theorem dX0_join_61 : decode cX0_join 61 = .ok (.iconst 0, 1) := by decide +kernel
theorem dX0_join_62 : decode cX0_join 62 = .ok (.bastore, 1) := by decide +kernel
theorem dX0_join_63 : decode cX0_join 63 = .ok (.aload_n 0, 1) := by decide +kernel
theorem dX0_join_64 : decode cX0_join 64 = .ok (.getfield 27, 3) := by decide +kernel
theorem dX0_join_67 : decode cX0_join 67 = .ok (.iload_n 3, 1) := by decide +kernel
theorem dX0_join_68 : decode cX0_join 68 = .ok (.baload, 1) := by decide +kernel
theorem dX0_join_69 : decode cX0_join 69 = .ok (.ifCond .eq 8, 3) := by decide +kernel
theorem dX0_join_72 : decode cX0_join 72 = .ok (.aload_n 0, 1) := by decide +kernel
theorem dX0_join_73 : decode cX0_join 73 = .ok (.iload_n 3, 1) := by decide +kernel
theorem dX0_join_74 : decode cX0_join 74 = .ok (.invokevirtual 124, 3) := by decide +kernel
theorem dX0_join_77 : decode cX0_join 77 = .ok (.iinc 3 1, 3) := by decide +kernel
theorem dX0_join_80 : decode cX0_join 80 = .ok (.goto (-46), 3) := by decide +kernel
theorem dX0_join_83 : decode cX0_join 83 = .ok (.iconst 0, 1) := by decide +kernel
theorem dX0_join_84 : decode cX0_join 84 = .ok (.istore_n 3, 1) := by decide +kernel
theorem dX0_join_85 : decode cX0_join 85 = .ok (.iload_n 3, 1) := by decide +kernel
theorem dX0_join_86 : decode cX0_join 86 = .ok (.aload_n 0, 1) := by decide +kernel
theorem dX0_join_87 : decode cX0_join 87 = .ok (.getfield 20, 3) := by decide +kernel
theorem dX0_join_90 : decode cX0_join 90 = .ok (.if_icmp .ge 42, 3) := by decide +kernel
theorem dX0_join_93 : decode cX0_join 93 = .ok (.iload_n 3, 1) := by decide +kernel
theorem dX0_join_94 : decode cX0_join 94 = .ok (.aload_n 0, 1) := by decide +kernel
theorem dX0_join_95 : decode cX0_join 95 = .ok (.getfield 121, 3) := by decide +kernel
theorem dX0_join_98 : decode cX0_join 98 = .ok (.if_icmp .ge 34, 3) := by decide +kernel
theorem dX0_join_101 : decode cX0_join 101 = .ok (.aload_n 0, 1) := by decide +kernel
theorem dX0_join_102 : decode cX0_join 102 = .ok (.aload_n 0, 1) := by decide +kernel
theorem dX0_join_103 : decode cX0_join 103 = .ok (.aload_n 0, 1) := by decide +kernel
theorem dX0_join_104 : decode cX0_join 104 = .ok (.getfield 47, 3) := by decide +kernel
theorem dX0_join_107 : decode cX0_join 107 = .ok (.iload_n 3, 1) := by decide +kernel
theorem dX0_join_108 : decode cX0_join 108 = .ok (.iaload, 1) := by decide +kernel
theorem dX0_join_109 : decode cX0_join 109 = .ok (.invokevirtual 128, 3) := by decide +kernel
theorem dX0_join_112 : decode cX0_join 112 = .ok (.aload_n 0, 1) := by decide +kernel
theorem dX0_join_113 : decode cX0_join 113 = .ok (.aload_n 0, 1) := by decide +kernel
theorem dX0_join_114 : decode cX0_join 114 = .ok (.getfield 47, 3) := by decide +kernel
theorem dX0_join_117 : decode cX0_join 117 = .ok (.iload_n 3, 1) := by decide +kernel
theorem dX0_join_118 : decode cX0_join 118 = .ok (.iaload, 1) := by decide +kernel
theorem dX0_join_119 : decode cX0_join 119 = .ok (.invokevirtual 131, 3) := by decide +kernel
theorem dX0_join_122 : decode cX0_join 122 = .ok (.iload_n 2, 1) := by decide +kernel
theorem dX0_join_123 : decode cX0_join 123 = .ok (.invokevirtual 134, 3) := by decide +kernel
theorem dX0_join_126 : decode cX0_join 126 = .ok (.iinc 3 1, 3) := by decide +kernel
theorem dX0_join_129 : decode cX0_join 129 = .ok (.goto (-44), 3) := by decide +kernel
theorem dX0_join_132 : decode cX0_join 132 = .ok (.aload_n 0, 1) := by decide +kernel
theorem dX0_join_133 : decode cX0_join 133 = .ok (.invokevirtual 90, 3) := by decide +kernel
theorem dX0_join_136 : decode cX0_join 136 = .ok (.ireturn, 1) := by decide +kernel
theorem dX0_clean_0 : decode cX0_clean 0 = .ok (.iload_n 1, 1) := by decide +kernel
theorem dX0_clean_1 : decode cX0_clean 1 = .ok (.ifCond .lt 10, 3) := by decide +kernel
theorem dX0_clean_4 : decode cX0_clean 4 = .ok (.iload_n 1, 1) := by decide +kernel
theorem dX0_clean_5 : decode cX0_clean 5 = .ok (.sipush 256, 3) := by decide +kernel
theorem dX0_clean_8 : decode cX0_clean 8 = .ok (.if_icmp .le 13, 3) := by decide +kernel
theorem dX0_clean_11 : decode cX0_clean 11 = .ok (.new 61, 3) := by decide +kernel
theorem dX0_clean_14 : decode cX0_clean 14 = .ok (.dup, 1) := by decide +kernel
theorem dX0_clean_15 : decode cX0_clean 15 = .ok (.ldc 138, 2) := by decide +kernel
theorem dX0_clean_17 : decode cX0_clean 17 = .ok (.invokespecial 65, 3) := by decide +kernel
theorem dX0_clean_20 : decode cX0_clean 20 = .ok (.athrow, 1) := by decide +kernel
theorem dX0_clean_21 : decode cX0_clean 21 = .ok (.aload_n 0, 1) := by decide +kernel
theorem dX0_clean_22 : decode cX0_clean 22 = .ok (.iconst 1, 1) := by decide +kernel
theorem dX0_clean_23 : decode cX0_clean 23 = .ok (.iload_n 1, 1) := by decide +kernel
theorem dX0_clean_24 : decode cX0_clean 24 = .ok (.invokevirtual 140, 3) := by decide +kernel
theorem dX0_clean_27 : decode cX0_clean 27 = .ok (.istore_n 2, 1) := by decide +kernel
theorem dX0_clean_28 : decode cX0_clean 28 = .ok (.aload_n 0, 1) := by decide +kernel
theorem dX0_clean_29 : decode cX0_clean 29 = .ok (.iconst 0, 1) := by decide +kernel
theorem dX0_clean_30 : decode cX0_clean 30 = .ok (.iload_n 1, 1) := by decide +kernel
theorem dX0_clean_31 : decode cX0_clean 31 = .ok (.invokevirtual 140, 3) := by decide +kernel
theorem dX0_clean_34 : decode cX0_clean 34 = .ok (.istore_n 3, 1) := by decide +kernel
theorem dX0_clean_35 : decode cX0_clean 35 = .ok (.iload_n 2, 1) := by decide +kernel
theorem dX0_clean_36 : decode cX0_clean 36 = .ok (.iload_n 3, 1) := by decide +kernel
theorem dX0_clean_37 : decode cX0_clean 37 = .ok (.iadd, 1) := by decide +kernel
theorem dX0_clean_38 : decode cX0_clean 38 = .ok (.ireturn, 1) := by decide +kernel
theorem dX0_edges_0 : decode cX0_edges 0 = .ok (.iconst 0, 1) := by decide +kernel
theorem dX0_edges_1 : decode cX0_edges 1 = .ok (.istore_n 1, 1) := by decide +kernel
theorem dX0_edges_2 : decode cX0_edges 2 = .ok (.iload_n 1, 1) := by decide +kernel
theorem dX0_edges_3 : decode cX0_edges 3 = .ok (.aload_n 0, 1) := by decide +kernel
theorem dX0_edges_4 : decode cX0_edges 4 = .ok (.getfield 17, 3) := by decide +kernel
theorem dX0_edges_7 : decode cX0_edges 7 = .ok (.if_icmp .ge 42, 3) := by decide +kernel
theorem dX0_edges_10 : decode cX0_edges 10 = .ok (.iconst 0, 1) := by decide +kernel
theorem dX0_edges_11 : decode cX0_edges 11 = .ok (.istore_n 2, 1) := by decide +kernel
theorem dX0_edges_12 : decode cX0_edges 12 = .ok (.iload_n 2, 1) := by decide +kernel
theorem dX0_edges_13 : decode cX0_edges 13 = .ok (.aload_n 0, 1) := by decide +kernel
theorem dX0_edges_14 : decode cX0_edges 14 = .ok (.getfield 13, 3) := by decide +kernel
theorem dX0_edges_17 : decode cX0_edges 17 = .ok (.if_icmp .ge 26, 3) := by decide +kernel
theorem dX0_edges_20 : decode cX0_edges 20 = .ok (.aload_n 0, 1) := by decide +kernel
theorem dX0_edges_21 : decode cX0_edges 21 = .ok (.getfield 44, 3) := by decide +kernel
theorem dX0_edges_24 : decode cX0_edges 24 = .ok (.aload_n 0, 1) := by decide +kernel
theorem dX0_edges_25 : decode cX0_edges 25 = .ok (.iload_n 2, 1) := by decide +kernel
theorem dX0_edges_26 : decode cX0_edges 26 = .ok (.iload_n 1, 1) := by decide +kernel
theorem dX0_edges_27 : decode cX0_edges 27 = .ok (.invokevirtual 66, 3) := by decide +kernel
theorem dX0_edges_30 : decode cX0_edges 30 = .ok (.aload_n 0, 1) := by decide +kernel
theorem dX0_edges_31 : decode cX0_edges 31 = .ok (.iload_n 2, 1) := by decide +kernel
theorem dX0_edges_32 : decode cX0_edges 32 = .ok (.iload_n 1, 1) := by decide +kernel
theorem dX0_edges_33 : decode cX0_edges 33 = .ok (.invokevirtual 144, 3) := by decide +kernel
theorem dX0_edges_36 : decode cX0_edges 36 = .ok (.bastore, 1) := by decide +kernel
theorem dX0_edges_37 : decode cX0_edges 37 = .ok (.iinc 2 1, 3) := by decide +kernel
theorem dX0_edges_40 : decode cX0_edges 40 = .ok (.goto (-28), 3) := by decide +kernel
theorem dX0_edges_43 : decode cX0_edges 43 = .ok (.iinc 1 1, 3) := by decide +kernel
theorem dX0_edges_46 : decode cX0_edges 46 = .ok (.goto (-44), 3) := by decide +kernel
theorem dX0_edges_49 : decode cX0_edges 49 = .ok (.iconst 0, 1) := by decide +kernel
theorem dX0_edges_50 : decode cX0_edges 50 = .ok (.istore_n 1, 1) := by decide +kernel
theorem dX0_edges_51 : decode cX0_edges 51 = .ok (.iload_n 1, 1) := by decide +kernel
theorem dX0_edges_52 : decode cX0_edges 52 = .ok (.aload_n 0, 1) := by decide +kernel
theorem dX0_edges_53 : decode cX0_edges 53 = .ok (.getfield 20, 3) := by decide +kernel
theorem dX0_edges_56 : decode cX0_edges 56 = .ok (.if_icmp .ge 21, 3) := by decide +kernel
theorem dX0_edges_59 : decode cX0_edges 59 = .ok (.aload_n 0, 1) := by decide +kernel
theorem dX0_edges_60 : decode cX0_edges 60 = .ok (.getfield 27, 3) := by decide +kernel
theorem dX0_edges_63 : decode cX0_edges 63 = .ok (.iload_n 1, 1) := by decide +kernel
theorem dX0_edges_64 : decode cX0_edges 64 = .ok (.aload_n 0, 1) := by decide +kernel
theorem dX0_edges_65 : decode cX0_edges 65 = .ok (.getfield 44, 3) := by decide +kernel
theorem dX0_edges_68 : decode cX0_edges 68 = .ok (.iload_n 1, 1) := by decide +kernel
theorem dX0_edges_69 : decode cX0_edges 69 = .ok (.baload, 1) := by decide +kernel
theorem dX0_edges_70 : decode cX0_edges 70 = .ok (.bastore, 1) := by decide +kernel
theorem dX0_edges_71 : decode cX0_edges 71 = .ok (.iinc 1 1, 3) := by decide +kernel
theorem dX0_edges_74 : decode cX0_edges 74 = .ok (.goto (-23), 3) := by decide +kernel
theorem dX0_edges_77 : decode cX0_edges 77 = .ok (.aload_n 0, 1) := by decide +kernel
theorem dX0_edges_78 : decode cX0_edges 78 = .ok (.invokevirtual 90, 3) := by decide +kernel
theorem dX0_edges_81 : decode cX0_edges 81 = .ok (.ireturn, 1) := by decide +kernel
theorem dX0_invert_0 : decode cX0_invert 0 = .ok (.iconst 0, 1) := by decide +kernel
theorem dX0_invert_1 : decode cX0_invert 1 = .ok (.istore_n 1, 1) := by decide +kernel
theorem dX0_invert_2 : decode cX0_invert 2 = .ok (.iload_n 1, 1) := by decide +kernel
theorem dX0_invert_3 : decode cX0_invert 3 = .ok (.aload_n 0, 1) := by decide +kernel
theorem dX0_invert_4 : decode cX0_invert 4 = .ok (.getfield 20, 3) := by decide +kernel
theorem dX0_invert_7 : decode cX0_invert 7 = .ok (.if_icmp .ge 29, 3) := by decide +kernel
theorem dX0_invert_10 : decode cX0_invert 10 = .ok (.aload_n 0, 1) := by decide +kernel
theorem dX0_invert_11 : decode cX0_invert 11 = .ok (.getfield 27, 3) := by decide +kernel
theorem dX0_invert_14 : decode cX0_invert 14 = .ok (.iload_n 1, 1) := by decide +kernel
theorem dX0_invert_15 : decode cX0_invert 15 = .ok (.aload_n 0, 1) := by decide +kernel
theorem dX0_invert_16 : decode cX0_invert 16 = .ok (.getfield 27, 3) := by decide +kernel
theorem dX0_invert_19 : decode cX0_invert 19 = .ok (.iload_n 1, 1) := by decide +kernel
theorem dX0_invert_20 : decode cX0_invert 20 = .ok (.baload, 1) := by decide +kernel
theorem dX0_invert_21 : decode cX0_invert 21 = .ok (.ifCond .ne 7, 3) := by decide +kernel
theorem dX0_invert_24 : decode cX0_invert 24 = .ok (.iconst 1, 1) := by decide +kernel
theorem dX0_invert_25 : decode cX0_invert 25 = .ok (.goto 4, 3) := by decide +kernel
theorem dX0_invert_28 : decode cX0_invert 28 = .ok (.iconst 0, 1) := by decide +kernel
theorem dX0_invert_29 : decode cX0_invert 29 = .ok (.bastore, 1) := by decide +kernel
theorem dX0_invert_30 : decode cX0_invert 30 = .ok (.iinc 1 1, 3) := by decide +kernel
theorem dX0_invert_33 : decode cX0_invert 33 = .ok (.goto (-31), 3) := by decide +kernel
theorem dX0_invert_36 : decode cX0_invert 36 = .ok (.aload_n 0, 1) := by decide +kernel
theorem dX0_invert_37 : decode cX0_invert 37 = .ok (.invokevirtual 90, 3) := by decide +kernel
theorem dX0_invert_40 : decode cX0_invert 40 = .ok (.ireturn, 1) := by decide +kernel
theorem dX0_at_0 : decode cX0_at 0 = .ok (.aload_n 0, 1) := by decide +kernel
theorem dX0_at_1 : decode cX0_at 1 = .ok (.iload_n 1, 1) := by decide +kernel
theorem dX0_at_2 : decode cX0_at 2 = .ok (.iload_n 2, 1) := by decide +kernel
theorem dX0_at_3 : decode cX0_at 3 = .ok (.invokevirtual 50, 3) := by decide +kernel
theorem dX0_at_6 : decode cX0_at 6 = .ok (.ifCond .ne 13, 3) := by decide +kernel
theorem dX0_at_9 : decode cX0_at 9 = .ok (.new 54, 3) := by decide +kernel
theorem dX0_at_12 : decode cX0_at 12 = .ok (.dup, 1) := by decide +kernel
theorem dX0_at_13 : decode cX0_at 13 = .ok (.ldc 56, 2) := by decide +kernel
theorem dX0_at_15 : decode cX0_at 15 = .ok (.invokespecial 58, 3) := by decide +kernel
theorem dX0_at_18 : decode cX0_at 18 = .ok (.athrow, 1) := by decide +kernel
theorem dX0_at_19 : decode cX0_at 19 = .ok (.aload_n 0, 1) := by decide +kernel
theorem dX0_at_20 : decode cX0_at 20 = .ok (.getfield 27, 3) := by decide +kernel
theorem dX0_at_23 : decode cX0_at 23 = .ok (.aload_n 0, 1) := by decide +kernel
theorem dX0_at_24 : decode cX0_at 24 = .ok (.iload_n 1, 1) := by decide +kernel
theorem dX0_at_25 : decode cX0_at 25 = .ok (.iload_n 2, 1) := by decide +kernel
theorem dX0_at_26 : decode cX0_at 26 = .ok (.invokevirtual 66, 3) := by decide +kernel
theorem dX0_at_29 : decode cX0_at 29 = .ok (.baload, 1) := by decide +kernel
theorem dX0_at_30 : decode cX0_at 30 = .ok (.ireturn, 1) := by decide +kernel
theorem dX0_sum_0 : decode cX0_sum 0 = .ok (.iload_n 1, 1) := by decide +kernel
theorem dX0_sum_1 : decode cX0_sum 1 = .ok (.iload_n 3, 1) := by decide +kernel
theorem dX0_sum_2 : decode cX0_sum 2 = .ok (.aload_n 0, 1) := by decide +kernel
theorem dX0_sum_3 : decode cX0_sum 3 = .ok (.getfield 13, 3) := by decide +kernel
theorem dX0_sum_6 : decode cX0_sum 6 = .ok (.invokestatic 147, 3) := by decide +kernel
theorem dX0_sum_9 : decode cX0_sum 9 = .ok (.ifCond .eq 16, 3) := by decide +kernel
theorem dX0_sum_12 : decode cX0_sum 12 = .ok (.iload_n 2, 1) := by decide +kernel
theorem dX0_sum_13 : decode cX0_sum 13 = .ok (.iload 4, 2) := by decide +kernel
theorem dX0_sum_15 : decode cX0_sum 15 = .ok (.aload_n 0, 1) := by decide +kernel
theorem dX0_sum_16 : decode cX0_sum 16 = .ok (.getfield 17, 3) := by decide +kernel
theorem dX0_sum_19 : decode cX0_sum 19 = .ok (.invokestatic 147, 3) := by decide +kernel
theorem dX0_sum_22 : decode cX0_sum 22 = .ok (.ifCond .ne 13, 3) := by decide +kernel
theorem dX0_sum_25 : decode cX0_sum 25 = .ok (.new 61, 3) := by decide +kernel
theorem dX0_sum_28 : decode cX0_sum 28 = .ok (.dup, 1) := by decide +kernel
theorem dX0_sum_29 : decode cX0_sum 29 = .ok (.ldc 151, 2) := by decide +kernel
theorem dX0_sum_31 : decode cX0_sum 31 = .ok (.invokespecial 65, 3) := by decide +kernel
theorem dX0_sum_34 : decode cX0_sum 34 = .ok (.athrow, 1) := by decide +kernel
theorem dX0_sum_35 : decode cX0_sum 35 = .ok (.aload_n 0, 1) := by decide +kernel
theorem dX0_sum_36 : decode cX0_sum 36 = .ok (.invokevirtual 83, 3) := by decide +kernel
theorem dX0_sum_39 : decode cX0_sum 39 = .ok (.aload_n 0, 1) := by decide +kernel
theorem dX0_sum_40 : decode cX0_sum 40 = .ok (.iload 5, 2) := by decide +kernel
theorem dX0_sum_42 : decode cX0_sum 42 = .ok (.ifCond .eq 10, 3) := by decide +kernel
theorem dX0_sum_45 : decode cX0_sum 45 = .ok (.aload_n 0, 1) := by decide +kernel
theorem dX0_sum_46 : decode cX0_sum 46 = .ok (.getfield 41, 3) := by decide +kernel
theorem dX0_sum_49 : decode cX0_sum 49 = .ok (.goto 7, 3) := by decide +kernel
theorem dX0_sum_52 : decode cX0_sum 52 = .ok (.aload_n 0, 1) := by decide +kernel
theorem dX0_sum_53 : decode cX0_sum 53 = .ok (.getfield 37, 3) := by decide +kernel
theorem dX0_sum_56 : decode cX0_sum 56 = .ok (.iload_n 1, 1) := by decide +kernel
theorem dX0_sum_57 : decode cX0_sum 57 = .ok (.iload_n 2, 1) := by decide +kernel
theorem dX0_sum_58 : decode cX0_sum 58 = .ok (.iload_n 1, 1) := by decide +kernel
theorem dX0_sum_59 : decode cX0_sum 59 = .ok (.iload_n 3, 1) := by decide +kernel
theorem dX0_sum_60 : decode cX0_sum 60 = .ok (.iadd, 1) := by decide +kernel
theorem dX0_sum_61 : decode cX0_sum 61 = .ok (.iload_n 2, 1) := by decide +kernel
theorem dX0_sum_62 : decode cX0_sum 62 = .ok (.iload 4, 2) := by decide +kernel
theorem dX0_sum_64 : decode cX0_sum 64 = .ok (.iadd, 1) := by decide +kernel
theorem dX0_sum_65 : decode cX0_sum 65 = .ok (.invokevirtual 153, 3) := by decide +kernel
theorem dX0_sum_68 : decode cX0_sum 68 = .ok (.lreturn, 1) := by decide +kernel
theorem dX0_cell_0 : decode cX0_cell 0 = .ok (.iload_n 1, 1) := by decide +kernel
theorem dX0_cell_1 : decode cX0_cell 1 = .ok (.invokestatic 109, 3) := by decide +kernel
theorem dX0_cell_4 : decode cX0_cell 4 = .ok (.ifCond .ne 13, 3) := by decide +kernel
theorem dX0_cell_7 : decode cX0_cell 7 = .ok (.new 61, 3) := by decide +kernel
theorem dX0_cell_10 : decode cX0_cell 10 = .ok (.dup, 1) := by decide +kernel
theorem dX0_cell_11 : decode cX0_cell 11 = .ok (.ldc 113, 2) := by decide +kernel
theorem dX0_cell_13 : decode cX0_cell 13 = .ok (.invokespecial 65, 3) := by decide +kernel
theorem dX0_cell_16 : decode cX0_cell 16 = .ok (.athrow, 1) := by decide +kernel
theorem dX0_cell_17 : decode cX0_cell 17 = .ok (.iload_n 2, 1) := by decide +kernel
theorem dX0_cell_18 : decode cX0_cell 18 = .ok (.ifCond .lt 7, 3) := by decide +kernel
theorem dX0_cell_21 : decode cX0_cell 21 = .ok (.iload_n 3, 1) := by decide +kernel
theorem dX0_cell_22 : decode cX0_cell 22 = .ok (.ifCond .ge 13, 3) := by decide +kernel
theorem dX0_cell_25 : decode cX0_cell 25 = .ok (.new 61, 3) := by decide +kernel
theorem dX0_cell_28 : decode cX0_cell 28 = .ok (.dup, 1) := by decide +kernel
theorem dX0_cell_29 : decode cX0_cell 29 = .ok (.ldc 157, 2) := by decide +kernel
theorem dX0_cell_31 : decode cX0_cell 31 = .ok (.invokespecial 65, 3) := by decide +kernel
theorem dX0_cell_34 : decode cX0_cell 34 = .ok (.athrow, 1) := by decide +kernel
theorem dX0_cell_35 : decode cX0_cell 35 = .ok (.iload_n 1, 1) := by decide +kernel
theorem dX0_cell_36 : decode cX0_cell 36 = .ok (.iload_n 2, 1) := by decide +kernel
theorem dX0_cell_37 : decode cX0_cell 37 = .ok (.iload_n 3, 1) := by decide +kernel
theorem dX0_cell_38 : decode cX0_cell 38 = .ok (.invokestatic 115, 3) := by decide +kernel
theorem dX0_cell_41 : decode cX0_cell 41 = .ok (.ireturn, 1) := by decide +kernel
theorem dX0_told_0 : decode cX0_told 0 = .ok (.iload_n 1, 1) := by decide +kernel
theorem dX0_told_1 : decode cX0_told 1 = .ok (.tableswitch 60 0 4 #[35, 40, 45, 50, 55], 35) := by decide +kernel
theorem dX0_told_36 : decode cX0_told 36 = .ok (.aload_n 0, 1) := by decide +kernel
theorem dX0_told_37 : decode cX0_told 37 = .ok (.getfield 13, 3) := by decide +kernel
theorem dX0_told_40 : decode cX0_told 40 = .ok (.ireturn, 1) := by decide +kernel
theorem dX0_told_41 : decode cX0_told 41 = .ok (.aload_n 0, 1) := by decide +kernel
theorem dX0_told_42 : decode cX0_told 42 = .ok (.getfield 17, 3) := by decide +kernel
theorem dX0_told_45 : decode cX0_told 45 = .ok (.ireturn, 1) := by decide +kernel
theorem dX0_told_46 : decode cX0_told 46 = .ok (.aload_n 0, 1) := by decide +kernel
theorem dX0_told_47 : decode cX0_told 47 = .ok (.invokevirtual 90, 3) := by decide +kernel
theorem dX0_told_50 : decode cX0_told 50 = .ok (.ireturn, 1) := by decide +kernel
theorem dX0_told_51 : decode cX0_told 51 = .ok (.aload_n 0, 1) := by decide +kernel
theorem dX0_told_52 : decode cX0_told 52 = .ok (.invokevirtual 159, 3) := by decide +kernel
theorem dX0_told_55 : decode cX0_told 55 = .ok (.ireturn, 1) := by decide +kernel
theorem dX0_told_56 : decode cX0_told 56 = .ok (.aload_n 0, 1) := by decide +kernel
theorem dX0_told_57 : decode cX0_told 57 = .ok (.invokevirtual 162, 3) := by decide +kernel
theorem dX0_told_60 : decode cX0_told 60 = .ok (.ireturn, 1) := by decide +kernel
theorem dX0_told_61 : decode cX0_told 61 = .ok (.iconst (-1), 1) := by decide +kernel
theorem dX0_told_62 : decode cX0_told 62 = .ok (.ireturn, 1) := by decide +kernel
theorem dX0_clear_0 : decode cX0_clear 0 = .ok (.iconst 0, 1) := by decide +kernel
theorem dX0_clear_1 : decode cX0_clear 1 = .ok (.istore_n 1, 1) := by decide +kernel
theorem dX0_clear_2 : decode cX0_clear 2 = .ok (.iload_n 1, 1) := by decide +kernel
theorem dX0_clear_3 : decode cX0_clear 3 = .ok (.aload_n 0, 1) := by decide +kernel
theorem dX0_clear_4 : decode cX0_clear 4 = .ok (.getfield 20, 3) := by decide +kernel
theorem dX0_clear_7 : decode cX0_clear 7 = .ok (.if_icmp .ge 23, 3) := by decide +kernel
theorem dX0_clear_10 : decode cX0_clear 10 = .ok (.aload_n 0, 1) := by decide +kernel
theorem dX0_clear_11 : decode cX0_clear 11 = .ok (.getfield 23, 3) := by decide +kernel
theorem dX0_clear_14 : decode cX0_clear 14 = .ok (.iload_n 1, 1) := by decide +kernel
theorem dX0_clear_15 : decode cX0_clear 15 = .ok (.iconst 0, 1) := by decide +kernel
theorem dX0_clear_16 : decode cX0_clear 16 = .ok (.iastore, 1) := by decide +kernel
theorem dX0_clear_17 : decode cX0_clear 17 = .ok (.aload_n 0, 1) := by decide +kernel
theorem dX0_clear_18 : decode cX0_clear 18 = .ok (.getfield 27, 3) := by decide +kernel
theorem dX0_clear_21 : decode cX0_clear 21 = .ok (.iload_n 1, 1) := by decide +kernel
theorem dX0_clear_22 : decode cX0_clear 22 = .ok (.iconst 0, 1) := by decide +kernel
theorem dX0_clear_23 : decode cX0_clear 23 = .ok (.bastore, 1) := by decide +kernel
theorem dX0_clear_24 : decode cX0_clear 24 = .ok (.iinc 1 1, 3) := by decide +kernel
theorem dX0_clear_27 : decode cX0_clear 27 = .ok (.goto (-25), 3) := by decide +kernel
theorem dX0_clear_30 : decode cX0_clear 30 = .ok (.aload_n 0, 1) := by decide +kernel
theorem dX0_clear_31 : decode cX0_clear 31 = .ok (.lconst 0, 1) := by decide +kernel
theorem dX0_clear_32 : decode cX0_clear 32 = .ok (.putfield 101, 3) := by decide +kernel
theorem dX0_clear_35 : decode cX0_clear 35 = .ok (.return_, 1) := by decide +kernel
theorem dX0_nearestSide_0 : decode cX0_nearestSide 0 = .ok (.iconst 1, 1) := by decide +kernel
theorem dX0_nearestSide_1 : decode cX0_nearestSide 1 = .ok (.bipush 16, 2) := by decide +kernel
theorem dX0_nearestSide_3 : decode cX0_nearestSide 3 = .ok (.iload_n 0, 1) := by decide +kernel
theorem dX0_nearestSide_4 : decode cX0_nearestSide 4 = .ok (.invokestatic 165, 3) := by decide +kernel
theorem dX0_nearestSide_7 : decode cX0_nearestSide 7 = .ok (.invokestatic 168, 3) := by decide +kernel
theorem dX0_nearestSide_10 : decode cX0_nearestSide 10 = .ok (.ireturn, 1) := by decide +kernel
theorem dX0_isInside_0 : decode cX0_isInside 0 = .ok (.iload_n 1, 1) := by decide +kernel
theorem dX0_isInside_1 : decode cX0_isInside 1 = .ok (.ifCond .lt 27, 3) := by decide +kernel
theorem dX0_isInside_4 : decode cX0_isInside 4 = .ok (.iload_n 1, 1) := by decide +kernel
theorem dX0_isInside_5 : decode cX0_isInside 5 = .ok (.aload_n 0, 1) := by decide +kernel
theorem dX0_isInside_6 : decode cX0_isInside 6 = .ok (.getfield 13, 3) := by decide +kernel
theorem dX0_isInside_9 : decode cX0_isInside 9 = .ok (.if_icmp .ge 19, 3) := by decide +kernel
theorem dX0_isInside_12 : decode cX0_isInside 12 = .ok (.iload_n 2, 1) := by decide +kernel
theorem dX0_isInside_13 : decode cX0_isInside 13 = .ok (.ifCond .lt 15, 3) := by decide +kernel
theorem dX0_isInside_16 : decode cX0_isInside 16 = .ok (.iload_n 2, 1) := by decide +kernel
theorem dX0_isInside_17 : decode cX0_isInside 17 = .ok (.aload_n 0, 1) := by decide +kernel
theorem dX0_isInside_18 : decode cX0_isInside 18 = .ok (.getfield 17, 3) := by decide +kernel
theorem dX0_isInside_21 : decode cX0_isInside 21 = .ok (.if_icmp .ge 7, 3) := by decide +kernel
theorem dX0_isInside_24 : decode cX0_isInside 24 = .ok (.iconst 1, 1) := by decide +kernel
theorem dX0_isInside_25 : decode cX0_isInside 25 = .ok (.goto 4, 3) := by decide +kernel
theorem dX0_isInside_28 : decode cX0_isInside 28 = .ok (.iconst 0, 1) := by decide +kernel
theorem dX0_isInside_29 : decode cX0_isInside 29 = .ok (.ireturn, 1) := by decide +kernel
theorem dX0_placeOf_0 : decode cX0_placeOf 0 = .ok (.iload_n 2, 1) := by decide +kernel
theorem dX0_placeOf_1 : decode cX0_placeOf 1 = .ok (.aload_n 0, 1) := by decide +kernel
theorem dX0_placeOf_2 : decode cX0_placeOf 2 = .ok (.getfield 13, 3) := by decide +kernel
theorem dX0_placeOf_5 : decode cX0_placeOf 5 = .ok (.imul, 1) := by decide +kernel
theorem dX0_placeOf_6 : decode cX0_placeOf 6 = .ok (.iload_n 1, 1) := by decide +kernel
theorem dX0_placeOf_7 : decode cX0_placeOf 7 = .ok (.iadd, 1) := by decide +kernel
theorem dX0_placeOf_8 : decode cX0_placeOf 8 = .ok (.ireturn, 1) := by decide +kernel
theorem dX0_columnOf_0 : decode cX0_columnOf 0 = .ok (.iload_n 1, 1) := by decide +kernel
theorem dX0_columnOf_1 : decode cX0_columnOf 1 = .ok (.aload_n 0, 1) := by decide +kernel
theorem dX0_columnOf_2 : decode cX0_columnOf 2 = .ok (.getfield 13, 3) := by decide +kernel
theorem dX0_columnOf_5 : decode cX0_columnOf 5 = .ok (.irem, 1) := by decide +kernel
theorem dX0_columnOf_6 : decode cX0_columnOf 6 = .ok (.ireturn, 1) := by decide +kernel
theorem dX0_rowOf_0 : decode cX0_rowOf 0 = .ok (.iload_n 1, 1) := by decide +kernel
theorem dX0_rowOf_1 : decode cX0_rowOf 1 = .ok (.aload_n 0, 1) := by decide +kernel
theorem dX0_rowOf_2 : decode cX0_rowOf 2 = .ok (.getfield 13, 3) := by decide +kernel
theorem dX0_rowOf_5 : decode cX0_rowOf 5 = .ok (.idiv, 1) := by decide +kernel
theorem dX0_rowOf_6 : decode cX0_rowOf 6 = .ok (.ireturn, 1) := by decide +kernel
theorem dX0_isPart_0 : decode cX0_isPart 0 = .ok (.iload_n 0, 1) := by decide +kernel
theorem dX0_isPart_1 : decode cX0_isPart 1 = .ok (.ifCond .lt 23, 3) := by decide +kernel
theorem dX0_isPart_4 : decode cX0_isPart 4 = .ok (.iload_n 0, 1) := by decide +kernel
theorem dX0_isPart_5 : decode cX0_isPart 5 = .ok (.iload_n 2, 1) := by decide +kernel
theorem dX0_isPart_6 : decode cX0_isPart 6 = .ok (.if_icmp .gt 18, 3) := by decide +kernel
theorem dX0_isPart_9 : decode cX0_isPart 9 = .ok (.iload_n 1, 1) := by decide +kernel
theorem dX0_isPart_10 : decode cX0_isPart 10 = .ok (.ifCond .lt 14, 3) := by decide +kernel
theorem dX0_isPart_13 : decode cX0_isPart 13 = .ok (.iload_n 1, 1) := by decide +kernel
theorem dX0_isPart_14 : decode cX0_isPart 14 = .ok (.iload_n 2, 1) := by decide +kernel
theorem dX0_isPart_15 : decode cX0_isPart 15 = .ok (.iload_n 0, 1) := by decide +kernel
theorem dX0_isPart_16 : decode cX0_isPart 16 = .ok (.isub, 1) := by decide +kernel
theorem dX0_isPart_17 : decode cX0_isPart 17 = .ok (.if_icmp .gt 7, 3) := by decide +kernel
theorem dX0_isPart_20 : decode cX0_isPart 20 = .ok (.iconst 1, 1) := by decide +kernel
theorem dX0_isPart_21 : decode cX0_isPart 21 = .ok (.goto 4, 3) := by decide +kernel
theorem dX0_isPart_24 : decode cX0_isPart 24 = .ok (.iconst 0, 1) := by decide +kernel
theorem dX0_isPart_25 : decode cX0_isPart 25 = .ok (.ireturn, 1) := by decide +kernel
theorem dX0_countBlack_0 : decode cX0_countBlack 0 = .ok (.iconst 0, 1) := by decide +kernel
theorem dX0_countBlack_1 : decode cX0_countBlack 1 = .ok (.istore_n 1, 1) := by decide +kernel
theorem dX0_countBlack_2 : decode cX0_countBlack 2 = .ok (.iconst 0, 1) := by decide +kernel
theorem dX0_countBlack_3 : decode cX0_countBlack 3 = .ok (.istore_n 2, 1) := by decide +kernel
theorem dX0_countBlack_4 : decode cX0_countBlack 4 = .ok (.iload_n 2, 1) := by decide +kernel
theorem dX0_countBlack_5 : decode cX0_countBlack 5 = .ok (.aload_n 0, 1) := by decide +kernel
theorem dX0_countBlack_6 : decode cX0_countBlack 6 = .ok (.getfield 20, 3) := by decide +kernel
theorem dX0_countBlack_9 : decode cX0_countBlack 9 = .ok (.if_icmp .ge 21, 3) := by decide +kernel
theorem dX0_countBlack_12 : decode cX0_countBlack 12 = .ok (.aload_n 0, 1) := by decide +kernel
theorem dX0_countBlack_13 : decode cX0_countBlack 13 = .ok (.getfield 27, 3) := by decide +kernel
theorem dX0_countBlack_16 : decode cX0_countBlack 16 = .ok (.iload_n 2, 1) := by decide +kernel
theorem dX0_countBlack_17 : decode cX0_countBlack 17 = .ok (.baload, 1) := by decide +kernel
theorem dX0_countBlack_18 : decode cX0_countBlack 18 = .ok (.ifCond .eq 6, 3) := by decide +kernel
theorem dX0_countBlack_21 : decode cX0_countBlack 21 = .ok (.iinc 1 1, 3) := by decide +kernel
theorem dX0_countBlack_24 : decode cX0_countBlack 24 = .ok (.iinc 2 1, 3) := by decide +kernel
theorem dX0_countBlack_27 : decode cX0_countBlack 27 = .ok (.goto (-23), 3) := by decide +kernel
theorem dX0_countBlack_30 : decode cX0_countBlack 30 = .ok (.iload_n 1, 1) := by decide +kernel
theorem dX0_countBlack_31 : decode cX0_countBlack 31 = .ok (.ireturn, 1) := by decide +kernel
theorem dX0_fillOfGrey_0 : decode cX0_fillOfGrey 0 = .ok (.aload_n 0, 1) := by decide +kernel
theorem dX0_fillOfGrey_1 : decode cX0_fillOfGrey 1 = .ok (.getfield 31, 3) := by decide +kernel
theorem dX0_fillOfGrey_4 : decode cX0_fillOfGrey 4 = .ok (.iconst 0, 1) := by decide +kernel
theorem dX0_fillOfGrey_5 : decode cX0_fillOfGrey 5 = .ok (.invokestatic 95, 3) := by decide +kernel
theorem dX0_fillOfGrey_8 : decode cX0_fillOfGrey 8 = .ok (.iconst 0, 1) := by decide +kernel
theorem dX0_fillOfGrey_9 : decode cX0_fillOfGrey 9 = .ok (.istore_n 1, 1) := by decide +kernel
theorem dX0_fillOfGrey_10 : decode cX0_fillOfGrey 10 = .ok (.iload_n 1, 1) := by decide +kernel
theorem dX0_fillOfGrey_11 : decode cX0_fillOfGrey 11 = .ok (.aload_n 0, 1) := by decide +kernel
theorem dX0_fillOfGrey_12 : decode cX0_fillOfGrey 12 = .ok (.getfield 20, 3) := by decide +kernel
theorem dX0_fillOfGrey_15 : decode cX0_fillOfGrey 15 = .ok (.if_icmp .ge 37, 3) := by decide +kernel
theorem dX0_fillOfGrey_18 : decode cX0_fillOfGrey 18 = .ok (.aload_n 0, 1) := by decide +kernel
theorem dX0_fillOfGrey_19 : decode cX0_fillOfGrey 19 = .ok (.getfield 23, 3) := by decide +kernel
theorem dX0_fillOfGrey_22 : decode cX0_fillOfGrey 22 = .ok (.iload_n 1, 1) := by decide +kernel
theorem dX0_fillOfGrey_23 : decode cX0_fillOfGrey 23 = .ok (.iaload, 1) := by decide +kernel
theorem dX0_fillOfGrey_24 : decode cX0_fillOfGrey 24 = .ok (.istore_n 2, 1) := by decide +kernel
theorem dX0_fillOfGrey_25 : decode cX0_fillOfGrey 25 = .ok (.iload_n 2, 1) := by decide +kernel
theorem dX0_fillOfGrey_26 : decode cX0_fillOfGrey 26 = .ok (.ifCond .lt 20, 3) := by decide +kernel
theorem dX0_fillOfGrey_29 : decode cX0_fillOfGrey 29 = .ok (.iload_n 2, 1) := by decide +kernel
theorem dX0_fillOfGrey_30 : decode cX0_fillOfGrey 30 = .ok (.sipush 256, 3) := by decide +kernel
theorem dX0_fillOfGrey_33 : decode cX0_fillOfGrey 33 = .ok (.if_icmp .ge 13, 3) := by decide +kernel
theorem dX0_fillOfGrey_36 : decode cX0_fillOfGrey 36 = .ok (.aload_n 0, 1) := by decide +kernel
theorem dX0_fillOfGrey_37 : decode cX0_fillOfGrey 37 = .ok (.getfield 31, 3) := by decide +kernel
theorem dX0_fillOfGrey_40 : decode cX0_fillOfGrey 40 = .ok (.iload_n 2, 1) := by decide +kernel
theorem dX0_fillOfGrey_41 : decode cX0_fillOfGrey 41 = .ok (.dup2, 1) := by decide +kernel
theorem dX0_fillOfGrey_42 : decode cX0_fillOfGrey 42 = .ok (.iaload, 1) := by decide +kernel
theorem dX0_fillOfGrey_43 : decode cX0_fillOfGrey 43 = .ok (.iconst 1, 1) := by decide +kernel
theorem dX0_fillOfGrey_44 : decode cX0_fillOfGrey 44 = .ok (.iadd, 1) := by decide +kernel
theorem dX0_fillOfGrey_45 : decode cX0_fillOfGrey 45 = .ok (.iastore, 1) := by decide +kernel
theorem dX0_fillOfGrey_46 : decode cX0_fillOfGrey 46 = .ok (.iinc 1 1, 3) := by decide +kernel
theorem dX0_fillOfGrey_49 : decode cX0_fillOfGrey 49 = .ok (.goto (-39), 3) := by decide +kernel
theorem dX0_fillOfGrey_52 : decode cX0_fillOfGrey 52 = .ok (.return_, 1) := by decide +kernel
theorem dX0_countGreys_0 : decode cX0_countGreys 0 = .ok (.aload_n 0, 1) := by decide +kernel
theorem dX0_countGreys_1 : decode cX0_countGreys 1 = .ok (.invokevirtual 171, 3) := by decide +kernel
theorem dX0_countGreys_4 : decode cX0_countGreys 4 = .ok (.iconst 0, 1) := by decide +kernel
theorem dX0_countGreys_5 : decode cX0_countGreys 5 = .ok (.istore_n 1, 1) := by decide +kernel
theorem dX0_countGreys_6 : decode cX0_countGreys 6 = .ok (.iconst 0, 1) := by decide +kernel
theorem dX0_countGreys_7 : decode cX0_countGreys 7 = .ok (.istore_n 2, 1) := by decide +kernel
theorem dX0_countGreys_8 : decode cX0_countGreys 8 = .ok (.iload_n 2, 1) := by decide +kernel
theorem dX0_countGreys_9 : decode cX0_countGreys 9 = .ok (.sipush 256, 3) := by decide +kernel
theorem dX0_countGreys_12 : decode cX0_countGreys 12 = .ok (.if_icmp .ge 21, 3) := by decide +kernel
theorem dX0_countGreys_15 : decode cX0_countGreys 15 = .ok (.aload_n 0, 1) := by decide +kernel
theorem dX0_countGreys_16 : decode cX0_countGreys 16 = .ok (.getfield 31, 3) := by decide +kernel
theorem dX0_countGreys_19 : decode cX0_countGreys 19 = .ok (.iload_n 2, 1) := by decide +kernel
theorem dX0_countGreys_20 : decode cX0_countGreys 20 = .ok (.iaload, 1) := by decide +kernel
theorem dX0_countGreys_21 : decode cX0_countGreys 21 = .ok (.ifCond .le 6, 3) := by decide +kernel
theorem dX0_countGreys_24 : decode cX0_countGreys 24 = .ok (.iinc 1 1, 3) := by decide +kernel
theorem dX0_countGreys_27 : decode cX0_countGreys 27 = .ok (.iinc 2 1, 3) := by decide +kernel
theorem dX0_countGreys_30 : decode cX0_countGreys 30 = .ok (.goto (-22), 3) := by decide +kernel
theorem dX0_countGreys_33 : decode cX0_countGreys 33 = .ok (.iload_n 1, 1) := by decide +kernel
theorem dX0_countGreys_34 : decode cX0_countGreys 34 = .ok (.ireturn, 1) := by decide +kernel
theorem dX0_bestBound_0 : decode cX0_bestBound 0 = .ok (.aload_n 0, 1) := by decide +kernel
theorem dX0_bestBound_1 : decode cX0_bestBound 1 = .ok (.invokevirtual 171, 3) := by decide +kernel
theorem dX0_bestBound_4 : decode cX0_bestBound 4 = .ok (.aload_n 0, 1) := by decide +kernel
theorem dX0_bestBound_5 : decode cX0_bestBound 5 = .ok (.invokevirtual 174, 3) := by decide +kernel
theorem dX0_bestBound_8 : decode cX0_bestBound 8 = .ok (.lstore_n 1, 1) := by decide +kernel
theorem dX0_bestBound_9 : decode cX0_bestBound 9 = .ok (.aload_n 0, 1) := by decide +kernel
theorem dX0_bestBound_10 : decode cX0_bestBound 10 = .ok (.getfield 23, 3) := by decide +kernel
theorem dX0_bestBound_13 : decode cX0_bestBound 13 = .ok (.iconst 0, 1) := by decide +kernel
theorem dX0_bestBound_14 : decode cX0_bestBound 14 = .ok (.iaload, 1) := by decide +kernel
theorem dX0_bestBound_15 : decode cX0_bestBound 15 = .ok (.iconst 1, 1) := by decide +kernel
theorem dX0_bestBound_16 : decode cX0_bestBound 16 = .ok (.isub, 1) := by decide +kernel
theorem dX0_bestBound_17 : decode cX0_bestBound 17 = .ok (.istore_n 3, 1) := by decide +kernel
theorem dX0_bestBound_18 : decode cX0_bestBound 18 = .ok (.lconst 0, 1) := by decide +kernel
theorem dX0_bestBound_19 : decode cX0_bestBound 19 = .ok (.lstore 4, 2) := by decide +kernel
theorem dX0_bestBound_21 : decode cX0_bestBound 21 = .ok (.lconst 1, 1) := by decide +kernel
theorem dX0_bestBound_22 : decode cX0_bestBound 22 = .ok (.lstore 6, 2) := by decide +kernel
theorem dX0_bestBound_24 : decode cX0_bestBound 24 = .ok (.lconst 0, 1) := by decide +kernel
theorem dX0_bestBound_25 : decode cX0_bestBound 25 = .ok (.lstore 8, 2) := by decide +kernel
theorem dX0_bestBound_27 : decode cX0_bestBound 27 = .ok (.lconst 0, 1) := by decide +kernel
theorem dX0_bestBound_28 : decode cX0_bestBound 28 = .ok (.lstore 10, 2) := by decide +kernel
theorem dX0_bestBound_30 : decode cX0_bestBound 30 = .ok (.iconst 0, 1) := by decide +kernel
theorem dX0_bestBound_31 : decode cX0_bestBound 31 = .ok (.istore 12, 2) := by decide +kernel
theorem dX0_bestBound_33 : decode cX0_bestBound 33 = .ok (.iload 12, 2) := by decide +kernel
theorem dX0_bestBound_35 : decode cX0_bestBound 35 = .ok (.sipush 255, 3) := by decide +kernel
theorem dX0_bestBound_38 : decode cX0_bestBound 38 = .ok (.if_icmp .ge 110, 3) := by decide +kernel
theorem dX0_bestBound_41 : decode cX0_bestBound 41 = .ok (.lload 8, 2) := by decide +kernel
theorem dX0_bestBound_43 : decode cX0_bestBound 43 = .ok (.aload_n 0, 1) := by decide +kernel
theorem dX0_bestBound_44 : decode cX0_bestBound 44 = .ok (.getfield 31, 3) := by decide +kernel
theorem dX0_bestBound_47 : decode cX0_bestBound 47 = .ok (.iload 12, 2) := by decide +kernel
theorem dX0_bestBound_49 : decode cX0_bestBound 49 = .ok (.iaload, 1) := by decide +kernel
theorem dX0_bestBound_50 : decode cX0_bestBound 50 = .ok (.i2l, 1) := by decide +kernel
theorem dX0_bestBound_51 : decode cX0_bestBound 51 = .ok (.ladd, 1) := by decide +kernel
theorem dX0_bestBound_52 : decode cX0_bestBound 52 = .ok (.lstore 8, 2) := by decide +kernel
theorem dX0_bestBound_54 : decode cX0_bestBound 54 = .ok (.lload 10, 2) := by decide +kernel
theorem dX0_bestBound_56 : decode cX0_bestBound 56 = .ok (.iload 12, 2) := by decide +kernel
theorem dX0_bestBound_58 : decode cX0_bestBound 58 = .ok (.i2l, 1) := by decide +kernel
theorem dX0_bestBound_59 : decode cX0_bestBound 59 = .ok (.aload_n 0, 1) := by decide +kernel
theorem dX0_bestBound_60 : decode cX0_bestBound 60 = .ok (.getfield 31, 3) := by decide +kernel
theorem dX0_bestBound_63 : decode cX0_bestBound 63 = .ok (.iload 12, 2) := by decide +kernel
theorem dX0_bestBound_65 : decode cX0_bestBound 65 = .ok (.iaload, 1) := by decide +kernel
theorem dX0_bestBound_66 : decode cX0_bestBound 66 = .ok (.i2l, 1) := by decide +kernel
theorem dX0_bestBound_67 : decode cX0_bestBound 67 = .ok (.lmul, 1) := by decide +kernel
theorem dX0_bestBound_68 : decode cX0_bestBound 68 = .ok (.ladd, 1) := by decide +kernel
theorem dX0_bestBound_69 : decode cX0_bestBound 69 = .ok (.lstore 10, 2) := by decide +kernel
theorem dX0_bestBound_71 : decode cX0_bestBound 71 = .ok (.aload_n 0, 1) := by decide +kernel
theorem dX0_bestBound_72 : decode cX0_bestBound 72 = .ok (.getfield 20, 3) := by decide +kernel
theorem dX0_bestBound_75 : decode cX0_bestBound 75 = .ok (.i2l, 1) := by decide +kernel
theorem dX0_bestBound_76 : decode cX0_bestBound 76 = .ok (.lload 8, 2) := by decide +kernel
theorem dX0_bestBound_78 : decode cX0_bestBound 78 = .ok (.lsub, 1) := by decide +kernel
theorem dX0_bestBound_79 : decode cX0_bestBound 79 = .ok (.lstore 13, 2) := by decide +kernel
theorem dX0_bestBound_81 : decode cX0_bestBound 81 = .ok (.lload 10, 2) := by decide +kernel
theorem dX0_bestBound_83 : decode cX0_bestBound 83 = .ok (.lload 13, 2) := by decide +kernel
theorem dX0_bestBound_85 : decode cX0_bestBound 85 = .ok (.lmul, 1) := by decide +kernel
theorem dX0_bestBound_86 : decode cX0_bestBound 86 = .ok (.lload_n 1, 1) := by decide +kernel
theorem dX0_bestBound_87 : decode cX0_bestBound 87 = .ok (.lload 10, 2) := by decide +kernel
theorem dX0_bestBound_89 : decode cX0_bestBound 89 = .ok (.lsub, 1) := by decide +kernel
theorem dX0_bestBound_90 : decode cX0_bestBound 90 = .ok (.lload 8, 2) := by decide +kernel
theorem dX0_bestBound_92 : decode cX0_bestBound 92 = .ok (.lmul, 1) := by decide +kernel
theorem dX0_bestBound_93 : decode cX0_bestBound 93 = .ok (.lsub, 1) := by decide +kernel
theorem dX0_bestBound_94 : decode cX0_bestBound 94 = .ok (.lstore 15, 2) := by decide +kernel
theorem dX0_bestBound_96 : decode cX0_bestBound 96 = .ok (.lload 15, 2) := by decide +kernel
theorem dX0_bestBound_98 : decode cX0_bestBound 98 = .ok (.lload 15, 2) := by decide +kernel
theorem dX0_bestBound_100 : decode cX0_bestBound 100 = .ok (.lmul, 1) := by decide +kernel
theorem dX0_bestBound_101 : decode cX0_bestBound 101 = .ok (.lstore 17, 2) := by decide +kernel
theorem dX0_bestBound_103 : decode cX0_bestBound 103 = .ok (.lload 8, 2) := by decide +kernel
theorem dX0_bestBound_105 : decode cX0_bestBound 105 = .ok (.lload 13, 2) := by decide +kernel
theorem dX0_bestBound_107 : decode cX0_bestBound 107 = .ok (.lmul, 1) := by decide +kernel
theorem dX0_bestBound_108 : decode cX0_bestBound 108 = .ok (.lstore 19, 2) := by decide +kernel
theorem dX0_bestBound_110 : decode cX0_bestBound 110 = .ok (.lload 19, 2) := by decide +kernel
theorem dX0_bestBound_112 : decode cX0_bestBound 112 = .ok (.lconst 0, 1) := by decide +kernel
theorem dX0_bestBound_113 : decode cX0_bestBound 113 = .ok (.lcmp, 1) := by decide +kernel
theorem dX0_bestBound_114 : decode cX0_bestBound 114 = .ok (.ifCond .le 28, 3) := by decide +kernel
theorem dX0_bestBound_117 : decode cX0_bestBound 117 = .ok (.lload 17, 2) := by decide +kernel
theorem dX0_bestBound_119 : decode cX0_bestBound 119 = .ok (.lload 6, 2) := by decide +kernel
theorem dX0_bestBound_121 : decode cX0_bestBound 121 = .ok (.lmul, 1) := by decide +kernel
theorem dX0_bestBound_122 : decode cX0_bestBound 122 = .ok (.lload 4, 2) := by decide +kernel
theorem dX0_bestBound_124 : decode cX0_bestBound 124 = .ok (.lload 19, 2) := by decide +kernel
theorem dX0_bestBound_126 : decode cX0_bestBound 126 = .ok (.lmul, 1) := by decide +kernel
theorem dX0_bestBound_127 : decode cX0_bestBound 127 = .ok (.lcmp, 1) := by decide +kernel
theorem dX0_bestBound_128 : decode cX0_bestBound 128 = .ok (.ifCond .le 14, 3) := by decide +kernel
theorem dX0_bestBound_131 : decode cX0_bestBound 131 = .ok (.iload 12, 2) := by decide +kernel
theorem dX0_bestBound_133 : decode cX0_bestBound 133 = .ok (.istore_n 3, 1) := by decide +kernel
theorem dX0_bestBound_134 : decode cX0_bestBound 134 = .ok (.lload 17, 2) := by decide +kernel
theorem dX0_bestBound_136 : decode cX0_bestBound 136 = .ok (.lstore 4, 2) := by decide +kernel
theorem dX0_bestBound_138 : decode cX0_bestBound 138 = .ok (.lload 19, 2) := by decide +kernel
theorem dX0_bestBound_140 : decode cX0_bestBound 140 = .ok (.lstore 6, 2) := by decide +kernel
theorem dX0_bestBound_142 : decode cX0_bestBound 142 = .ok (.iinc 12 1, 3) := by decide +kernel
theorem dX0_bestBound_145 : decode cX0_bestBound 145 = .ok (.goto (-112), 3) := by decide +kernel
theorem dX0_bestBound_148 : decode cX0_bestBound 148 = .ok (.iload_n 3, 1) := by decide +kernel
theorem dX0_bestBound_149 : decode cX0_bestBound 149 = .ok (.ireturn, 1) := by decide +kernel
theorem dX0_sumOfSamples_0 : decode cX0_sumOfSamples 0 = .ok (.lconst 0, 1) := by decide +kernel
theorem dX0_sumOfSamples_1 : decode cX0_sumOfSamples 1 = .ok (.lstore_n 1, 1) := by decide +kernel
theorem dX0_sumOfSamples_2 : decode cX0_sumOfSamples 2 = .ok (.iconst 0, 1) := by decide +kernel
theorem dX0_sumOfSamples_3 : decode cX0_sumOfSamples 3 = .ok (.istore_n 3, 1) := by decide +kernel
theorem dX0_sumOfSamples_4 : decode cX0_sumOfSamples 4 = .ok (.iload_n 3, 1) := by decide +kernel
theorem dX0_sumOfSamples_5 : decode cX0_sumOfSamples 5 = .ok (.aload_n 0, 1) := by decide +kernel
theorem dX0_sumOfSamples_6 : decode cX0_sumOfSamples 6 = .ok (.getfield 20, 3) := by decide +kernel
theorem dX0_sumOfSamples_9 : decode cX0_sumOfSamples 9 = .ok (.if_icmp .ge 19, 3) := by decide +kernel
theorem dX0_sumOfSamples_12 : decode cX0_sumOfSamples 12 = .ok (.lload_n 1, 1) := by decide +kernel
theorem dX0_sumOfSamples_13 : decode cX0_sumOfSamples 13 = .ok (.aload_n 0, 1) := by decide +kernel
theorem dX0_sumOfSamples_14 : decode cX0_sumOfSamples 14 = .ok (.getfield 23, 3) := by decide +kernel
theorem dX0_sumOfSamples_17 : decode cX0_sumOfSamples 17 = .ok (.iload_n 3, 1) := by decide +kernel
theorem dX0_sumOfSamples_18 : decode cX0_sumOfSamples 18 = .ok (.iaload, 1) := by decide +kernel
theorem dX0_sumOfSamples_19 : decode cX0_sumOfSamples 19 = .ok (.i2l, 1) := by decide +kernel
theorem dX0_sumOfSamples_20 : decode cX0_sumOfSamples 20 = .ok (.ladd, 1) := by decide +kernel
theorem dX0_sumOfSamples_21 : decode cX0_sumOfSamples 21 = .ok (.lstore_n 1, 1) := by decide +kernel
theorem dX0_sumOfSamples_22 : decode cX0_sumOfSamples 22 = .ok (.iinc 3 1, 3) := by decide +kernel
theorem dX0_sumOfSamples_25 : decode cX0_sumOfSamples 25 = .ok (.goto (-21), 3) := by decide +kernel
theorem dX0_sumOfSamples_28 : decode cX0_sumOfSamples 28 = .ok (.lload_n 1, 1) := by decide +kernel
theorem dX0_sumOfSamples_29 : decode cX0_sumOfSamples 29 = .ok (.lreturn, 1) := by decide +kernel
theorem dX0_fillSums_0 : decode cX0_fillSums 0 = .ok (.iconst 0, 1) := by decide +kernel
theorem dX0_fillSums_1 : decode cX0_fillSums 1 = .ok (.istore_n 1, 1) := by decide +kernel
theorem dX0_fillSums_2 : decode cX0_fillSums 2 = .ok (.iload_n 1, 1) := by decide +kernel
theorem dX0_fillSums_3 : decode cX0_fillSums 3 = .ok (.aload_n 0, 1) := by decide +kernel
theorem dX0_fillSums_4 : decode cX0_fillSums 4 = .ok (.getfield 17, 3) := by decide +kernel
theorem dX0_fillSums_7 : decode cX0_fillSums 7 = .ok (.if_icmp .ge 119, 3) := by decide +kernel
theorem dX0_fillSums_10 : decode cX0_fillSums 10 = .ok (.lconst 0, 1) := by decide +kernel
theorem dX0_fillSums_11 : decode cX0_fillSums 11 = .ok (.lstore_n 2, 1) := by decide +kernel
theorem dX0_fillSums_12 : decode cX0_fillSums 12 = .ok (.lconst 0, 1) := by decide +kernel
theorem dX0_fillSums_13 : decode cX0_fillSums 13 = .ok (.lstore 4, 2) := by decide +kernel
theorem dX0_fillSums_15 : decode cX0_fillSums 15 = .ok (.iconst 0, 1) := by decide +kernel
theorem dX0_fillSums_16 : decode cX0_fillSums 16 = .ok (.istore 6, 2) := by decide +kernel
theorem dX0_fillSums_18 : decode cX0_fillSums 18 = .ok (.iload 6, 2) := by decide +kernel
theorem dX0_fillSums_20 : decode cX0_fillSums 20 = .ok (.aload_n 0, 1) := by decide +kernel
theorem dX0_fillSums_21 : decode cX0_fillSums 21 = .ok (.getfield 13, 3) := by decide +kernel
theorem dX0_fillSums_24 : decode cX0_fillSums 24 = .ok (.if_icmp .ge 96, 3) := by decide +kernel
theorem dX0_fillSums_27 : decode cX0_fillSums 27 = .ok (.aload_n 0, 1) := by decide +kernel
theorem dX0_fillSums_28 : decode cX0_fillSums 28 = .ok (.getfield 23, 3) := by decide +kernel
theorem dX0_fillSums_31 : decode cX0_fillSums 31 = .ok (.aload_n 0, 1) := by decide +kernel
theorem dX0_fillSums_32 : decode cX0_fillSums 32 = .ok (.iload 6, 2) := by decide +kernel
theorem dX0_fillSums_34 : decode cX0_fillSums 34 = .ok (.iload_n 1, 1) := by decide +kernel
theorem dX0_fillSums_35 : decode cX0_fillSums 35 = .ok (.invokevirtual 66, 3) := by decide +kernel
theorem dX0_fillSums_38 : decode cX0_fillSums 38 = .ok (.iaload, 1) := by decide +kernel
theorem dX0_fillSums_39 : decode cX0_fillSums 39 = .ok (.i2l, 1) := by decide +kernel
theorem dX0_fillSums_40 : decode cX0_fillSums 40 = .ok (.lstore 7, 2) := by decide +kernel
theorem dX0_fillSums_42 : decode cX0_fillSums 42 = .ok (.lload_n 2, 1) := by decide +kernel
theorem dX0_fillSums_43 : decode cX0_fillSums 43 = .ok (.lload 7, 2) := by decide +kernel
theorem dX0_fillSums_45 : decode cX0_fillSums 45 = .ok (.ladd, 1) := by decide +kernel
theorem dX0_fillSums_46 : decode cX0_fillSums 46 = .ok (.lstore_n 2, 1) := by decide +kernel
theorem dX0_fillSums_47 : decode cX0_fillSums 47 = .ok (.lload 4, 2) := by decide +kernel
theorem dX0_fillSums_49 : decode cX0_fillSums 49 = .ok (.lload 7, 2) := by decide +kernel
theorem dX0_fillSums_51 : decode cX0_fillSums 51 = .ok (.lload 7, 2) := by decide +kernel
theorem dX0_fillSums_53 : decode cX0_fillSums 53 = .ok (.lmul, 1) := by decide +kernel
theorem dX0_fillSums_54 : decode cX0_fillSums 54 = .ok (.ladd, 1) := by decide +kernel
theorem dX0_fillSums_55 : decode cX0_fillSums 55 = .ok (.lstore 4, 2) := by decide +kernel
theorem dX0_fillSums_57 : decode cX0_fillSums 57 = .ok (.aload_n 0, 1) := by decide +kernel
theorem dX0_fillSums_58 : decode cX0_fillSums 58 = .ok (.iload 6, 2) := by decide +kernel
theorem dX0_fillSums_60 : decode cX0_fillSums 60 = .ok (.iconst 1, 1) := by decide +kernel
theorem dX0_fillSums_61 : decode cX0_fillSums 61 = .ok (.iadd, 1) := by decide +kernel
theorem dX0_fillSums_62 : decode cX0_fillSums 62 = .ok (.iload_n 1, 1) := by decide +kernel
theorem dX0_fillSums_63 : decode cX0_fillSums 63 = .ok (.invokevirtual 178, 3) := by decide +kernel
theorem dX0_fillSums_66 : decode cX0_fillSums 66 = .ok (.istore 9, 2) := by decide +kernel
theorem dX0_fillSums_68 : decode cX0_fillSums 68 = .ok (.aload_n 0, 1) := by decide +kernel
theorem dX0_fillSums_69 : decode cX0_fillSums 69 = .ok (.iload 6, 2) := by decide +kernel
theorem dX0_fillSums_71 : decode cX0_fillSums 71 = .ok (.iconst 1, 1) := by decide +kernel
theorem dX0_fillSums_72 : decode cX0_fillSums 72 = .ok (.iadd, 1) := by decide +kernel
theorem dX0_fillSums_73 : decode cX0_fillSums 73 = .ok (.iload_n 1, 1) := by decide +kernel
theorem dX0_fillSums_74 : decode cX0_fillSums 74 = .ok (.iconst 1, 1) := by decide +kernel
theorem dX0_fillSums_75 : decode cX0_fillSums 75 = .ok (.iadd, 1) := by decide +kernel
theorem dX0_fillSums_76 : decode cX0_fillSums 76 = .ok (.invokevirtual 178, 3) := by decide +kernel
theorem dX0_fillSums_79 : decode cX0_fillSums 79 = .ok (.istore 10, 2) := by decide +kernel
theorem dX0_fillSums_81 : decode cX0_fillSums 81 = .ok (.aload_n 0, 1) := by decide +kernel
theorem dX0_fillSums_82 : decode cX0_fillSums 82 = .ok (.getfield 37, 3) := by decide +kernel
theorem dX0_fillSums_85 : decode cX0_fillSums 85 = .ok (.iload 10, 2) := by decide +kernel
theorem dX0_fillSums_87 : decode cX0_fillSums 87 = .ok (.aload_n 0, 1) := by decide +kernel
theorem dX0_fillSums_88 : decode cX0_fillSums 88 = .ok (.getfield 37, 3) := by decide +kernel
theorem dX0_fillSums_91 : decode cX0_fillSums 91 = .ok (.iload 9, 2) := by decide +kernel
theorem dX0_fillSums_93 : decode cX0_fillSums 93 = .ok (.laload, 1) := by decide +kernel
theorem dX0_fillSums_94 : decode cX0_fillSums 94 = .ok (.lload_n 2, 1) := by decide +kernel
theorem dX0_fillSums_95 : decode cX0_fillSums 95 = .ok (.ladd, 1) := by decide +kernel
theorem dX0_fillSums_96 : decode cX0_fillSums 96 = .ok (.lastore, 1) := by decide +kernel
theorem dX0_fillSums_97 : decode cX0_fillSums 97 = .ok (.aload_n 0, 1) := by decide +kernel
theorem dX0_fillSums_98 : decode cX0_fillSums 98 = .ok (.getfield 41, 3) := by decide +kernel
theorem dX0_fillSums_101 : decode cX0_fillSums 101 = .ok (.iload 10, 2) := by decide +kernel
theorem dX0_fillSums_103 : decode cX0_fillSums 103 = .ok (.aload_n 0, 1) := by decide +kernel
theorem dX0_fillSums_104 : decode cX0_fillSums 104 = .ok (.getfield 41, 3) := by decide +kernel
theorem dX0_fillSums_107 : decode cX0_fillSums 107 = .ok (.iload 9, 2) := by decide +kernel
theorem dX0_fillSums_109 : decode cX0_fillSums 109 = .ok (.laload, 1) := by decide +kernel
theorem dX0_fillSums_110 : decode cX0_fillSums 110 = .ok (.lload 4, 2) := by decide +kernel
theorem dX0_fillSums_112 : decode cX0_fillSums 112 = .ok (.ladd, 1) := by decide +kernel
theorem dX0_fillSums_113 : decode cX0_fillSums 113 = .ok (.lastore, 1) := by decide +kernel
theorem dX0_fillSums_114 : decode cX0_fillSums 114 = .ok (.iinc 6 1, 3) := by decide +kernel
theorem dX0_fillSums_117 : decode cX0_fillSums 117 = .ok (.goto (-99), 3) := by decide +kernel
theorem dX0_fillSums_120 : decode cX0_fillSums 120 = .ok (.iinc 1 1, 3) := by decide +kernel
theorem dX0_fillSums_123 : decode cX0_fillSums 123 = .ok (.goto (-121), 3) := by decide +kernel
theorem dX0_fillSums_126 : decode cX0_fillSums 126 = .ok (.return_, 1) := by decide +kernel
theorem dX0_cornerOf_0 : decode cX0_cornerOf 0 = .ok (.iload_n 2, 1) := by decide +kernel
theorem dX0_cornerOf_1 : decode cX0_cornerOf 1 = .ok (.aload_n 0, 1) := by decide +kernel
theorem dX0_cornerOf_2 : decode cX0_cornerOf 2 = .ok (.getfield 13, 3) := by decide +kernel
theorem dX0_cornerOf_5 : decode cX0_cornerOf 5 = .ok (.iconst 1, 1) := by decide +kernel
theorem dX0_cornerOf_6 : decode cX0_cornerOf 6 = .ok (.iadd, 1) := by decide +kernel
theorem dX0_cornerOf_7 : decode cX0_cornerOf 7 = .ok (.imul, 1) := by decide +kernel
theorem dX0_cornerOf_8 : decode cX0_cornerOf 8 = .ok (.iload_n 1, 1) := by decide +kernel
theorem dX0_cornerOf_9 : decode cX0_cornerOf 9 = .ok (.iadd, 1) := by decide +kernel
theorem dX0_cornerOf_10 : decode cX0_cornerOf 10 = .ok (.ireturn, 1) := by decide +kernel
theorem dX0_sumBetween_0 : decode cX0_sumBetween 0 = .ok (.aload_n 1, 1) := by decide +kernel
theorem dX0_sumBetween_1 : decode cX0_sumBetween 1 = .ok (.aload_n 0, 1) := by decide +kernel
theorem dX0_sumBetween_2 : decode cX0_sumBetween 2 = .ok (.iload 4, 2) := by decide +kernel
theorem dX0_sumBetween_4 : decode cX0_sumBetween 4 = .ok (.iload 5, 2) := by decide +kernel
theorem dX0_sumBetween_6 : decode cX0_sumBetween 6 = .ok (.invokevirtual 178, 3) := by decide +kernel
theorem dX0_sumBetween_9 : decode cX0_sumBetween 9 = .ok (.laload, 1) := by decide +kernel
theorem dX0_sumBetween_10 : decode cX0_sumBetween 10 = .ok (.aload_n 1, 1) := by decide +kernel
theorem dX0_sumBetween_11 : decode cX0_sumBetween 11 = .ok (.aload_n 0, 1) := by decide +kernel
theorem dX0_sumBetween_12 : decode cX0_sumBetween 12 = .ok (.iload_n 2, 1) := by decide +kernel
theorem dX0_sumBetween_13 : decode cX0_sumBetween 13 = .ok (.iload 5, 2) := by decide +kernel
theorem dX0_sumBetween_15 : decode cX0_sumBetween 15 = .ok (.invokevirtual 178, 3) := by decide +kernel
theorem dX0_sumBetween_18 : decode cX0_sumBetween 18 = .ok (.laload, 1) := by decide +kernel
theorem dX0_sumBetween_19 : decode cX0_sumBetween 19 = .ok (.lsub, 1) := by decide +kernel
theorem dX0_sumBetween_20 : decode cX0_sumBetween 20 = .ok (.lstore 6, 2) := by decide +kernel
theorem dX0_sumBetween_22 : decode cX0_sumBetween 22 = .ok (.aload_n 1, 1) := by decide +kernel
theorem dX0_sumBetween_23 : decode cX0_sumBetween 23 = .ok (.aload_n 0, 1) := by decide +kernel
theorem dX0_sumBetween_24 : decode cX0_sumBetween 24 = .ok (.iload 4, 2) := by decide +kernel
theorem dX0_sumBetween_26 : decode cX0_sumBetween 26 = .ok (.iload_n 3, 1) := by decide +kernel
theorem dX0_sumBetween_27 : decode cX0_sumBetween 27 = .ok (.invokevirtual 178, 3) := by decide +kernel
theorem dX0_sumBetween_30 : decode cX0_sumBetween 30 = .ok (.laload, 1) := by decide +kernel
theorem dX0_sumBetween_31 : decode cX0_sumBetween 31 = .ok (.aload_n 1, 1) := by decide +kernel
theorem dX0_sumBetween_32 : decode cX0_sumBetween 32 = .ok (.aload_n 0, 1) := by decide +kernel
theorem dX0_sumBetween_33 : decode cX0_sumBetween 33 = .ok (.iload_n 2, 1) := by decide +kernel
theorem dX0_sumBetween_34 : decode cX0_sumBetween 34 = .ok (.iload_n 3, 1) := by decide +kernel
theorem dX0_sumBetween_35 : decode cX0_sumBetween 35 = .ok (.invokevirtual 178, 3) := by decide +kernel
theorem dX0_sumBetween_38 : decode cX0_sumBetween 38 = .ok (.laload, 1) := by decide +kernel
theorem dX0_sumBetween_39 : decode cX0_sumBetween 39 = .ok (.lsub, 1) := by decide +kernel
theorem dX0_sumBetween_40 : decode cX0_sumBetween 40 = .ok (.lstore 8, 2) := by decide +kernel
theorem dX0_sumBetween_42 : decode cX0_sumBetween 42 = .ok (.lload 6, 2) := by decide +kernel
theorem dX0_sumBetween_44 : decode cX0_sumBetween 44 = .ok (.lload 8, 2) := by decide +kernel
theorem dX0_sumBetween_46 : decode cX0_sumBetween 46 = .ok (.lsub, 1) := by decide +kernel
theorem dX0_sumBetween_47 : decode cX0_sumBetween 47 = .ok (.lreturn, 1) := by decide +kernel
theorem dX0_isDarkInWindow_0 : decode cX0_isDarkInWindow 0 = .ok (.iconst 0, 1) := by decide +kernel
theorem dX0_isDarkInWindow_1 : decode cX0_isDarkInWindow 1 = .ok (.iload_n 1, 1) := by decide +kernel
theorem dX0_isDarkInWindow_2 : decode cX0_isDarkInWindow 2 = .ok (.iload_n 3, 1) := by decide +kernel
theorem dX0_isDarkInWindow_3 : decode cX0_isDarkInWindow 3 = .ok (.isub, 1) := by decide +kernel
theorem dX0_isDarkInWindow_4 : decode cX0_isDarkInWindow 4 = .ok (.invokestatic 168, 3) := by decide +kernel
theorem dX0_isDarkInWindow_7 : decode cX0_isDarkInWindow 7 = .ok (.istore 5, 2) := by decide +kernel
theorem dX0_isDarkInWindow_9 : decode cX0_isDarkInWindow 9 = .ok (.iconst 0, 1) := by decide +kernel
theorem dX0_isDarkInWindow_10 : decode cX0_isDarkInWindow 10 = .ok (.iload_n 2, 1) := by decide +kernel
theorem dX0_isDarkInWindow_11 : decode cX0_isDarkInWindow 11 = .ok (.iload_n 3, 1) := by decide +kernel
theorem dX0_isDarkInWindow_12 : decode cX0_isDarkInWindow 12 = .ok (.isub, 1) := by decide +kernel
theorem dX0_isDarkInWindow_13 : decode cX0_isDarkInWindow 13 = .ok (.invokestatic 168, 3) := by decide +kernel
theorem dX0_isDarkInWindow_16 : decode cX0_isDarkInWindow 16 = .ok (.istore 6, 2) := by decide +kernel
theorem dX0_isDarkInWindow_18 : decode cX0_isDarkInWindow 18 = .ok (.aload_n 0, 1) := by decide +kernel
theorem dX0_isDarkInWindow_19 : decode cX0_isDarkInWindow 19 = .ok (.getfield 13, 3) := by decide +kernel
theorem dX0_isDarkInWindow_22 : decode cX0_isDarkInWindow 22 = .ok (.iload_n 1, 1) := by decide +kernel
theorem dX0_isDarkInWindow_23 : decode cX0_isDarkInWindow 23 = .ok (.iload_n 3, 1) := by decide +kernel
theorem dX0_isDarkInWindow_24 : decode cX0_isDarkInWindow 24 = .ok (.iadd, 1) := by decide +kernel
theorem dX0_isDarkInWindow_25 : decode cX0_isDarkInWindow 25 = .ok (.iconst 1, 1) := by decide +kernel
theorem dX0_isDarkInWindow_26 : decode cX0_isDarkInWindow 26 = .ok (.iadd, 1) := by decide +kernel
theorem dX0_isDarkInWindow_27 : decode cX0_isDarkInWindow 27 = .ok (.invokestatic 165, 3) := by decide +kernel
theorem dX0_isDarkInWindow_30 : decode cX0_isDarkInWindow 30 = .ok (.istore 7, 2) := by decide +kernel
theorem dX0_isDarkInWindow_32 : decode cX0_isDarkInWindow 32 = .ok (.aload_n 0, 1) := by decide +kernel
theorem dX0_isDarkInWindow_33 : decode cX0_isDarkInWindow 33 = .ok (.getfield 17, 3) := by decide +kernel
theorem dX0_isDarkInWindow_36 : decode cX0_isDarkInWindow 36 = .ok (.iload_n 2, 1) := by decide +kernel
theorem dX0_isDarkInWindow_37 : decode cX0_isDarkInWindow 37 = .ok (.iload_n 3, 1) := by decide +kernel
theorem dX0_isDarkInWindow_38 : decode cX0_isDarkInWindow 38 = .ok (.iadd, 1) := by decide +kernel
theorem dX0_isDarkInWindow_39 : decode cX0_isDarkInWindow 39 = .ok (.iconst 1, 1) := by decide +kernel
theorem dX0_isDarkInWindow_40 : decode cX0_isDarkInWindow 40 = .ok (.iadd, 1) := by decide +kernel
theorem dX0_isDarkInWindow_41 : decode cX0_isDarkInWindow 41 = .ok (.invokestatic 165, 3) := by decide +kernel
theorem dX0_isDarkInWindow_44 : decode cX0_isDarkInWindow 44 = .ok (.istore 8, 2) := by decide +kernel
theorem dX0_isDarkInWindow_46 : decode cX0_isDarkInWindow 46 = .ok (.iload 7, 2) := by decide +kernel
theorem dX0_isDarkInWindow_48 : decode cX0_isDarkInWindow 48 = .ok (.iload 5, 2) := by decide +kernel
theorem dX0_isDarkInWindow_50 : decode cX0_isDarkInWindow 50 = .ok (.isub, 1) := by decide +kernel
theorem dX0_isDarkInWindow_51 : decode cX0_isDarkInWindow 51 = .ok (.i2l, 1) := by decide +kernel
theorem dX0_isDarkInWindow_52 : decode cX0_isDarkInWindow 52 = .ok (.iload 8, 2) := by decide +kernel
theorem dX0_isDarkInWindow_54 : decode cX0_isDarkInWindow 54 = .ok (.iload 6, 2) := by decide +kernel
theorem dX0_isDarkInWindow_56 : decode cX0_isDarkInWindow 56 = .ok (.isub, 1) := by decide +kernel
theorem dX0_isDarkInWindow_57 : decode cX0_isDarkInWindow 57 = .ok (.i2l, 1) := by decide +kernel
theorem dX0_isDarkInWindow_58 : decode cX0_isDarkInWindow 58 = .ok (.lmul, 1) := by decide +kernel
theorem dX0_isDarkInWindow_59 : decode cX0_isDarkInWindow 59 = .ok (.lstore 9, 2) := by decide +kernel
theorem dX0_isDarkInWindow_61 : decode cX0_isDarkInWindow 61 = .ok (.aload_n 0, 1) := by decide +kernel
theorem dX0_isDarkInWindow_62 : decode cX0_isDarkInWindow 62 = .ok (.aload_n 0, 1) := by decide +kernel
theorem dX0_isDarkInWindow_63 : decode cX0_isDarkInWindow 63 = .ok (.getfield 37, 3) := by decide +kernel
theorem dX0_isDarkInWindow_66 : decode cX0_isDarkInWindow 66 = .ok (.iload 5, 2) := by decide +kernel
theorem dX0_isDarkInWindow_68 : decode cX0_isDarkInWindow 68 = .ok (.iload 6, 2) := by decide +kernel
theorem dX0_isDarkInWindow_70 : decode cX0_isDarkInWindow 70 = .ok (.iload 7, 2) := by decide +kernel
theorem dX0_isDarkInWindow_72 : decode cX0_isDarkInWindow 72 = .ok (.iload 8, 2) := by decide +kernel
theorem dX0_isDarkInWindow_74 : decode cX0_isDarkInWindow 74 = .ok (.invokevirtual 153, 3) := by decide +kernel
theorem dX0_isDarkInWindow_77 : decode cX0_isDarkInWindow 77 = .ok (.lstore 11, 2) := by decide +kernel
theorem dX0_isDarkInWindow_79 : decode cX0_isDarkInWindow 79 = .ok (.aload_n 0, 1) := by decide +kernel
theorem dX0_isDarkInWindow_80 : decode cX0_isDarkInWindow 80 = .ok (.aload_n 0, 1) := by decide +kernel
theorem dX0_isDarkInWindow_81 : decode cX0_isDarkInWindow 81 = .ok (.getfield 41, 3) := by decide +kernel
theorem dX0_isDarkInWindow_84 : decode cX0_isDarkInWindow 84 = .ok (.iload 5, 2) := by decide +kernel
theorem dX0_isDarkInWindow_86 : decode cX0_isDarkInWindow 86 = .ok (.iload 6, 2) := by decide +kernel
theorem dX0_isDarkInWindow_88 : decode cX0_isDarkInWindow 88 = .ok (.iload 7, 2) := by decide +kernel
theorem dX0_isDarkInWindow_90 : decode cX0_isDarkInWindow 90 = .ok (.iload 8, 2) := by decide +kernel
theorem dX0_isDarkInWindow_92 : decode cX0_isDarkInWindow 92 = .ok (.invokevirtual 153, 3) := by decide +kernel
theorem dX0_isDarkInWindow_95 : decode cX0_isDarkInWindow 95 = .ok (.lstore 13, 2) := by decide +kernel
theorem dX0_isDarkInWindow_97 : decode cX0_isDarkInWindow 97 = .ok (.lload 9, 2) := by decide +kernel
theorem dX0_isDarkInWindow_99 : decode cX0_isDarkInWindow 99 = .ok (.lload 13, 2) := by decide +kernel
theorem dX0_isDarkInWindow_101 : decode cX0_isDarkInWindow 101 = .ok (.lmul, 1) := by decide +kernel
theorem dX0_isDarkInWindow_102 : decode cX0_isDarkInWindow 102 = .ok (.lload 11, 2) := by decide +kernel
theorem dX0_isDarkInWindow_104 : decode cX0_isDarkInWindow 104 = .ok (.lload 11, 2) := by decide +kernel
theorem dX0_isDarkInWindow_106 : decode cX0_isDarkInWindow 106 = .ok (.lmul, 1) := by decide +kernel
theorem dX0_isDarkInWindow_107 : decode cX0_isDarkInWindow 107 = .ok (.lsub, 1) := by decide +kernel
theorem dX0_isDarkInWindow_108 : decode cX0_isDarkInWindow 108 = .ok (.lstore 15, 2) := by decide +kernel
theorem dX0_isDarkInWindow_110 : decode cX0_isDarkInWindow 110 = .ok (.aload_n 0, 1) := by decide +kernel
theorem dX0_isDarkInWindow_111 : decode cX0_isDarkInWindow 111 = .ok (.getfield 23, 3) := by decide +kernel
theorem dX0_isDarkInWindow_114 : decode cX0_isDarkInWindow 114 = .ok (.aload_n 0, 1) := by decide +kernel
theorem dX0_isDarkInWindow_115 : decode cX0_isDarkInWindow 115 = .ok (.iload_n 1, 1) := by decide +kernel
theorem dX0_isDarkInWindow_116 : decode cX0_isDarkInWindow 116 = .ok (.iload_n 2, 1) := by decide +kernel
theorem dX0_isDarkInWindow_117 : decode cX0_isDarkInWindow 117 = .ok (.invokevirtual 66, 3) := by decide +kernel
theorem dX0_isDarkInWindow_120 : decode cX0_isDarkInWindow 120 = .ok (.iaload, 1) := by decide +kernel
theorem dX0_isDarkInWindow_121 : decode cX0_isDarkInWindow 121 = .ok (.istore 17, 2) := by decide +kernel
theorem dX0_isDarkInWindow_123 : decode cX0_isDarkInWindow 123 = .ok (.lload 15, 2) := by decide +kernel
theorem dX0_isDarkInWindow_125 : decode cX0_isDarkInWindow 125 = .ok (.lconst 0, 1) := by decide +kernel
theorem dX0_isDarkInWindow_126 : decode cX0_isDarkInWindow 126 = .ok (.lcmp, 1) := by decide +kernel
theorem dX0_isDarkInWindow_127 : decode cX0_isDarkInWindow 127 = .ok (.ifCond .ne 17, 3) := by decide +kernel
theorem dX0_isDarkInWindow_130 : decode cX0_isDarkInWindow 130 = .ok (.iload 17, 2) := by decide +kernel
theorem dX0_isDarkInWindow_132 : decode cX0_isDarkInWindow 132 = .ok (.sipush 128, 3) := by decide +kernel
theorem dX0_isDarkInWindow_135 : decode cX0_isDarkInWindow 135 = .ok (.if_icmp .ge 7, 3) := by decide +kernel
theorem dX0_isDarkInWindow_138 : decode cX0_isDarkInWindow 138 = .ok (.iconst 1, 1) := by decide +kernel
theorem dX0_isDarkInWindow_139 : decode cX0_isDarkInWindow 139 = .ok (.goto 4, 3) := by decide +kernel
theorem dX0_isDarkInWindow_142 : decode cX0_isDarkInWindow 142 = .ok (.iconst 0, 1) := by decide +kernel
theorem dX0_isDarkInWindow_143 : decode cX0_isDarkInWindow 143 = .ok (.ireturn, 1) := by decide +kernel
theorem dX0_isDarkInWindow_144 : decode cX0_isDarkInWindow 144 = .ok (.lload 11, 2) := by decide +kernel
theorem dX0_isDarkInWindow_146 : decode cX0_isDarkInWindow 146 = .ok (.lload 9, 2) := by decide +kernel
theorem dX0_isDarkInWindow_148 : decode cX0_isDarkInWindow 148 = .ok (.iload 17, 2) := by decide +kernel
theorem dX0_isDarkInWindow_150 : decode cX0_isDarkInWindow 150 = .ok (.i2l, 1) := by decide +kernel
theorem dX0_isDarkInWindow_151 : decode cX0_isDarkInWindow 151 = .ok (.lmul, 1) := by decide +kernel
theorem dX0_isDarkInWindow_152 : decode cX0_isDarkInWindow 152 = .ok (.lsub, 1) := by decide +kernel
theorem dX0_isDarkInWindow_153 : decode cX0_isDarkInWindow 153 = .ok (.lstore 18, 2) := by decide +kernel
theorem dX0_isDarkInWindow_155 : decode cX0_isDarkInWindow 155 = .ok (.lload 18, 2) := by decide +kernel
theorem dX0_isDarkInWindow_157 : decode cX0_isDarkInWindow 157 = .ok (.lconst 0, 1) := by decide +kernel
theorem dX0_isDarkInWindow_158 : decode cX0_isDarkInWindow 158 = .ok (.lcmp, 1) := by decide +kernel
theorem dX0_isDarkInWindow_159 : decode cX0_isDarkInWindow 159 = .ok (.ifCond .lt 30, 3) := by decide +kernel
theorem dX0_isDarkInWindow_162 : decode cX0_isDarkInWindow 162 = .ok (.ldc2_w 181, 3) := by decide +kernel
theorem dX0_isDarkInWindow_165 : decode cX0_isDarkInWindow 165 = .ok (.lload 18, 2) := by decide +kernel
theorem dX0_isDarkInWindow_167 : decode cX0_isDarkInWindow 167 = .ok (.lmul, 1) := by decide +kernel
theorem dX0_isDarkInWindow_168 : decode cX0_isDarkInWindow 168 = .ok (.lload 18, 2) := by decide +kernel
theorem dX0_isDarkInWindow_170 : decode cX0_isDarkInWindow 170 = .ok (.lmul, 1) := by decide +kernel
theorem dX0_isDarkInWindow_171 : decode cX0_isDarkInWindow 171 = .ok (.iload 4, 2) := by decide +kernel
theorem dX0_isDarkInWindow_173 : decode cX0_isDarkInWindow 173 = .ok (.i2l, 1) := by decide +kernel
theorem dX0_isDarkInWindow_174 : decode cX0_isDarkInWindow 174 = .ok (.iload 4, 2) := by decide +kernel
theorem dX0_isDarkInWindow_176 : decode cX0_isDarkInWindow 176 = .ok (.i2l, 1) := by decide +kernel
theorem dX0_isDarkInWindow_177 : decode cX0_isDarkInWindow 177 = .ok (.lmul, 1) := by decide +kernel
theorem dX0_isDarkInWindow_178 : decode cX0_isDarkInWindow 178 = .ok (.lload 15, 2) := by decide +kernel
theorem dX0_isDarkInWindow_180 : decode cX0_isDarkInWindow 180 = .ok (.lmul, 1) := by decide +kernel
theorem dX0_isDarkInWindow_181 : decode cX0_isDarkInWindow 181 = .ok (.lcmp, 1) := by decide +kernel
theorem dX0_isDarkInWindow_182 : decode cX0_isDarkInWindow 182 = .ok (.ifCond .lt 7, 3) := by decide +kernel
theorem dX0_isDarkInWindow_185 : decode cX0_isDarkInWindow 185 = .ok (.iconst 1, 1) := by decide +kernel
theorem dX0_isDarkInWindow_186 : decode cX0_isDarkInWindow 186 = .ok (.goto 4, 3) := by decide +kernel
theorem dX0_isDarkInWindow_189 : decode cX0_isDarkInWindow 189 = .ok (.iconst 0, 1) := by decide +kernel
theorem dX0_isDarkInWindow_190 : decode cX0_isDarkInWindow 190 = .ok (.ireturn, 1) := by decide +kernel
theorem dX0_spreadRow_0 : decode cX0_spreadRow 0 = .ok (.iload_n 2, 1) := by decide +kernel
theorem dX0_spreadRow_1 : decode cX0_spreadRow 1 = .ok (.iconst 1, 1) := by decide +kernel
theorem dX0_spreadRow_2 : decode cX0_spreadRow 2 = .ok (.if_icmp .ne 14, 3) := by decide +kernel
theorem dX0_spreadRow_5 : decode cX0_spreadRow 5 = .ok (.iload_n 1, 1) := by decide +kernel
theorem dX0_spreadRow_6 : decode cX0_spreadRow 6 = .ok (.iconst 2, 1) := by decide +kernel
theorem dX0_spreadRow_7 : decode cX0_spreadRow 7 = .ok (.irem, 1) := by decide +kernel
theorem dX0_spreadRow_8 : decode cX0_spreadRow 8 = .ok (.iconst 1, 1) := by decide +kernel
theorem dX0_spreadRow_9 : decode cX0_spreadRow 9 = .ok (.if_icmp .ne 7, 3) := by decide +kernel
theorem dX0_spreadRow_12 : decode cX0_spreadRow 12 = .ok (.iconst 1, 1) := by decide +kernel
theorem dX0_spreadRow_13 : decode cX0_spreadRow 13 = .ok (.goto 4, 3) := by decide +kernel
theorem dX0_spreadRow_16 : decode cX0_spreadRow 16 = .ok (.iconst 0, 1) := by decide +kernel
theorem dX0_spreadRow_17 : decode cX0_spreadRow 17 = .ok (.istore_n 3, 1) := by decide +kernel
theorem dX0_spreadRow_18 : decode cX0_spreadRow 18 = .ok (.iload_n 3, 1) := by decide +kernel
theorem dX0_spreadRow_19 : decode cX0_spreadRow 19 = .ok (.ifCond .eq 7, 3) := by decide +kernel
theorem dX0_spreadRow_22 : decode cX0_spreadRow 22 = .ok (.iconst (-1), 1) := by decide +kernel
theorem dX0_spreadRow_23 : decode cX0_spreadRow 23 = .ok (.goto 4, 3) := by decide +kernel
theorem dX0_spreadRow_26 : decode cX0_spreadRow 26 = .ok (.iconst 1, 1) := by decide +kernel
theorem dX0_spreadRow_27 : decode cX0_spreadRow 27 = .ok (.istore 4, 2) := by decide +kernel
theorem dX0_spreadRow_29 : decode cX0_spreadRow 29 = .ok (.iload_n 3, 1) := by decide +kernel
theorem dX0_spreadRow_30 : decode cX0_spreadRow 30 = .ok (.ifCond .eq 12, 3) := by decide +kernel
theorem dX0_spreadRow_33 : decode cX0_spreadRow 33 = .ok (.aload_n 0, 1) := by decide +kernel
theorem dX0_spreadRow_34 : decode cX0_spreadRow 34 = .ok (.getfield 13, 3) := by decide +kernel
theorem dX0_spreadRow_37 : decode cX0_spreadRow 37 = .ok (.iconst 1, 1) := by decide +kernel
theorem dX0_spreadRow_38 : decode cX0_spreadRow 38 = .ok (.isub, 1) := by decide +kernel
theorem dX0_spreadRow_39 : decode cX0_spreadRow 39 = .ok (.goto 4, 3) := by decide +kernel
theorem dX0_spreadRow_42 : decode cX0_spreadRow 42 = .ok (.iconst 0, 1) := by decide +kernel
theorem dX0_spreadRow_43 : decode cX0_spreadRow 43 = .ok (.istore 5, 2) := by decide +kernel
theorem dX0_spreadRow_45 : decode cX0_spreadRow 45 = .ok (.iconst 0, 1) := by decide +kernel
theorem dX0_spreadRow_46 : decode cX0_spreadRow 46 = .ok (.istore 6, 2) := by decide +kernel
theorem dX0_spreadRow_48 : decode cX0_spreadRow 48 = .ok (.iload 6, 2) := by decide +kernel
theorem dX0_spreadRow_50 : decode cX0_spreadRow 50 = .ok (.aload_n 0, 1) := by decide +kernel
theorem dX0_spreadRow_51 : decode cX0_spreadRow 51 = .ok (.getfield 13, 3) := by decide +kernel
theorem dX0_spreadRow_54 : decode cX0_spreadRow 54 = .ok (.if_icmp .ge 26, 3) := by decide +kernel
theorem dX0_spreadRow_57 : decode cX0_spreadRow 57 = .ok (.aload_n 0, 1) := by decide +kernel
theorem dX0_spreadRow_58 : decode cX0_spreadRow 58 = .ok (.iload 5, 2) := by decide +kernel
theorem dX0_spreadRow_60 : decode cX0_spreadRow 60 = .ok (.iload_n 1, 1) := by decide +kernel
theorem dX0_spreadRow_61 : decode cX0_spreadRow 61 = .ok (.iload 4, 2) := by decide +kernel
theorem dX0_spreadRow_63 : decode cX0_spreadRow 63 = .ok (.iload_n 2, 1) := by decide +kernel
theorem dX0_spreadRow_64 : decode cX0_spreadRow 64 = .ok (.invokevirtual 183, 3) := by decide +kernel
theorem dX0_spreadRow_67 : decode cX0_spreadRow 67 = .ok (.iload 5, 2) := by decide +kernel
theorem dX0_spreadRow_69 : decode cX0_spreadRow 69 = .ok (.iload 4, 2) := by decide +kernel
theorem dX0_spreadRow_71 : decode cX0_spreadRow 71 = .ok (.iadd, 1) := by decide +kernel
theorem dX0_spreadRow_72 : decode cX0_spreadRow 72 = .ok (.istore 5, 2) := by decide +kernel
theorem dX0_spreadRow_74 : decode cX0_spreadRow 74 = .ok (.iinc 6 1, 3) := by decide +kernel
theorem dX0_spreadRow_77 : decode cX0_spreadRow 77 = .ok (.goto (-29), 3) := by decide +kernel
theorem dX0_spreadRow_80 : decode cX0_spreadRow 80 = .ok (.return_, 1) := by decide +kernel
theorem dX0_spreadSample_0 : decode cX0_spreadSample 0 = .ok (.aload_n 0, 1) := by decide +kernel
theorem dX0_spreadSample_1 : decode cX0_spreadSample 1 = .ok (.iload_n 1, 1) := by decide +kernel
theorem dX0_spreadSample_2 : decode cX0_spreadSample 2 = .ok (.iload_n 2, 1) := by decide +kernel
theorem dX0_spreadSample_3 : decode cX0_spreadSample 3 = .ok (.invokevirtual 66, 3) := by decide +kernel
theorem dX0_spreadSample_6 : decode cX0_spreadSample 6 = .ok (.istore 5, 2) := by decide +kernel
theorem dX0_spreadSample_8 : decode cX0_spreadSample 8 = .ok (.aload_n 0, 1) := by decide +kernel
theorem dX0_spreadSample_9 : decode cX0_spreadSample 9 = .ok (.getfield 23, 3) := by decide +kernel
theorem dX0_spreadSample_12 : decode cX0_spreadSample 12 = .ok (.iload 5, 2) := by decide +kernel
theorem dX0_spreadSample_14 : decode cX0_spreadSample 14 = .ok (.iaload, 1) := by decide +kernel
theorem dX0_spreadSample_15 : decode cX0_spreadSample 15 = .ok (.aload_n 0, 1) := by decide +kernel
theorem dX0_spreadSample_16 : decode cX0_spreadSample 16 = .ok (.getfield 34, 3) := by decide +kernel
theorem dX0_spreadSample_19 : decode cX0_spreadSample 19 = .ok (.iload 5, 2) := by decide +kernel
theorem dX0_spreadSample_21 : decode cX0_spreadSample 21 = .ok (.iaload, 1) := by decide +kernel
theorem dX0_spreadSample_22 : decode cX0_spreadSample 22 = .ok (.iadd, 1) := by decide +kernel
theorem dX0_spreadSample_23 : decode cX0_spreadSample 23 = .ok (.istore 6, 2) := by decide +kernel
theorem dX0_spreadSample_25 : decode cX0_spreadSample 25 = .ok (.aload_n 0, 1) := by decide +kernel
theorem dX0_spreadSample_26 : decode cX0_spreadSample 26 = .ok (.getfield 27, 3) := by decide +kernel
theorem dX0_spreadSample_29 : decode cX0_spreadSample 29 = .ok (.iload 5, 2) := by decide +kernel
theorem dX0_spreadSample_31 : decode cX0_spreadSample 31 = .ok (.iload 6, 2) := by decide +kernel
theorem dX0_spreadSample_33 : decode cX0_spreadSample 33 = .ok (.sipush 128, 3) := by decide +kernel
theorem dX0_spreadSample_36 : decode cX0_spreadSample 36 = .ok (.if_icmp .ge 7, 3) := by decide +kernel
theorem dX0_spreadSample_39 : decode cX0_spreadSample 39 = .ok (.iconst 1, 1) := by decide +kernel
theorem dX0_spreadSample_40 : decode cX0_spreadSample 40 = .ok (.goto 4, 3) := by decide +kernel
theorem dX0_spreadSample_43 : decode cX0_spreadSample 43 = .ok (.iconst 0, 1) := by decide +kernel
theorem dX0_spreadSample_44 : decode cX0_spreadSample 44 = .ok (.bastore, 1) := by decide +kernel
theorem dX0_spreadSample_45 : decode cX0_spreadSample 45 = .ok (.aload_n 0, 1) := by decide +kernel
theorem dX0_spreadSample_46 : decode cX0_spreadSample 46 = .ok (.getfield 27, 3) := by decide +kernel
theorem dX0_spreadSample_49 : decode cX0_spreadSample 49 = .ok (.iload 5, 2) := by decide +kernel
theorem dX0_spreadSample_51 : decode cX0_spreadSample 51 = .ok (.baload, 1) := by decide +kernel
theorem dX0_spreadSample_52 : decode cX0_spreadSample 52 = .ok (.ifCond .eq 8, 3) := by decide +kernel
theorem dX0_spreadSample_55 : decode cX0_spreadSample 55 = .ok (.iload 6, 2) := by decide +kernel
theorem dX0_spreadSample_57 : decode cX0_spreadSample 57 = .ok (.goto 9, 3) := by decide +kernel
theorem dX0_spreadSample_60 : decode cX0_spreadSample 60 = .ok (.iload 6, 2) := by decide +kernel
theorem dX0_spreadSample_62 : decode cX0_spreadSample 62 = .ok (.sipush 255, 3) := by decide +kernel
theorem dX0_spreadSample_65 : decode cX0_spreadSample 65 = .ok (.isub, 1) := by decide +kernel
theorem dX0_spreadSample_66 : decode cX0_spreadSample 66 = .ok (.istore 7, 2) := by decide +kernel
theorem dX0_spreadSample_68 : decode cX0_spreadSample 68 = .ok (.iload 7, 2) := by decide +kernel
theorem dX0_spreadSample_70 : decode cX0_spreadSample 70 = .ok (.iconst 2, 1) := by decide +kernel
theorem dX0_spreadSample_71 : decode cX0_spreadSample 71 = .ok (.idiv, 1) := by decide +kernel
theorem dX0_spreadSample_72 : decode cX0_spreadSample 72 = .ok (.istore 8, 2) := by decide +kernel
theorem dX0_spreadSample_74 : decode cX0_spreadSample 74 = .ok (.iload 4, 2) := by decide +kernel
theorem dX0_spreadSample_76 : decode cX0_spreadSample 76 = .ok (.iconst 2, 1) := by decide +kernel
theorem dX0_spreadSample_77 : decode cX0_spreadSample 77 = .ok (.if_icmp .ne 10, 3) := by decide +kernel
theorem dX0_spreadSample_80 : decode cX0_spreadSample 80 = .ok (.iload 7, 2) := by decide +kernel
theorem dX0_spreadSample_82 : decode cX0_spreadSample 82 = .ok (.iconst 4, 1) := by decide +kernel
theorem dX0_spreadSample_83 : decode cX0_spreadSample 83 = .ok (.idiv, 1) := by decide +kernel
theorem dX0_spreadSample_84 : decode cX0_spreadSample 84 = .ok (.goto 8, 3) := by decide +kernel
theorem dX0_spreadSample_87 : decode cX0_spreadSample 87 = .ok (.iload 7, 2) := by decide +kernel
theorem dX0_spreadSample_89 : decode cX0_spreadSample 89 = .ok (.iload 8, 2) := by decide +kernel
theorem dX0_spreadSample_91 : decode cX0_spreadSample 91 = .ok (.isub, 1) := by decide +kernel
theorem dX0_spreadSample_92 : decode cX0_spreadSample 92 = .ok (.istore 9, 2) := by decide +kernel
theorem dX0_spreadSample_94 : decode cX0_spreadSample 94 = .ok (.iload 7, 2) := by decide +kernel
theorem dX0_spreadSample_96 : decode cX0_spreadSample 96 = .ok (.iload 8, 2) := by decide +kernel
theorem dX0_spreadSample_98 : decode cX0_spreadSample 98 = .ok (.isub, 1) := by decide +kernel
theorem dX0_spreadSample_99 : decode cX0_spreadSample 99 = .ok (.iload 9, 2) := by decide +kernel
theorem dX0_spreadSample_101 : decode cX0_spreadSample 101 = .ok (.isub, 1) := by decide +kernel
theorem dX0_spreadSample_102 : decode cX0_spreadSample 102 = .ok (.istore 10, 2) := by decide +kernel
theorem dX0_spreadSample_104 : decode cX0_spreadSample 104 = .ok (.aload_n 0, 1) := by decide +kernel
theorem dX0_spreadSample_105 : decode cX0_spreadSample 105 = .ok (.iload_n 1, 1) := by decide +kernel
theorem dX0_spreadSample_106 : decode cX0_spreadSample 106 = .ok (.iload_n 3, 1) := by decide +kernel
theorem dX0_spreadSample_107 : decode cX0_spreadSample 107 = .ok (.iadd, 1) := by decide +kernel
theorem dX0_spreadSample_108 : decode cX0_spreadSample 108 = .ok (.iload_n 2, 1) := by decide +kernel
theorem dX0_spreadSample_109 : decode cX0_spreadSample 109 = .ok (.iload 8, 2) := by decide +kernel
theorem dX0_spreadSample_111 : decode cX0_spreadSample 111 = .ok (.invokevirtual 187, 3) := by decide +kernel
theorem dX0_spreadSample_114 : decode cX0_spreadSample 114 = .ok (.aload_n 0, 1) := by decide +kernel
theorem dX0_spreadSample_115 : decode cX0_spreadSample 115 = .ok (.iload_n 1, 1) := by decide +kernel
theorem dX0_spreadSample_116 : decode cX0_spreadSample 116 = .ok (.iload_n 2, 1) := by decide +kernel
theorem dX0_spreadSample_117 : decode cX0_spreadSample 117 = .ok (.iconst 1, 1) := by decide +kernel
theorem dX0_spreadSample_118 : decode cX0_spreadSample 118 = .ok (.iadd, 1) := by decide +kernel
theorem dX0_spreadSample_119 : decode cX0_spreadSample 119 = .ok (.iload 9, 2) := by decide +kernel
theorem dX0_spreadSample_121 : decode cX0_spreadSample 121 = .ok (.invokevirtual 187, 3) := by decide +kernel
theorem dX0_spreadSample_124 : decode cX0_spreadSample 124 = .ok (.aload_n 0, 1) := by decide +kernel
theorem dX0_spreadSample_125 : decode cX0_spreadSample 125 = .ok (.iload_n 1, 1) := by decide +kernel
theorem dX0_spreadSample_126 : decode cX0_spreadSample 126 = .ok (.iload_n 3, 1) := by decide +kernel
theorem dX0_spreadSample_127 : decode cX0_spreadSample 127 = .ok (.isub, 1) := by decide +kernel
theorem dX0_spreadSample_128 : decode cX0_spreadSample 128 = .ok (.iload_n 2, 1) := by decide +kernel
theorem dX0_spreadSample_129 : decode cX0_spreadSample 129 = .ok (.iconst 1, 1) := by decide +kernel
theorem dX0_spreadSample_130 : decode cX0_spreadSample 130 = .ok (.iadd, 1) := by decide +kernel
theorem dX0_spreadSample_131 : decode cX0_spreadSample 131 = .ok (.iload 10, 2) := by decide +kernel
theorem dX0_spreadSample_133 : decode cX0_spreadSample 133 = .ok (.invokevirtual 187, 3) := by decide +kernel
theorem dX0_spreadSample_136 : decode cX0_spreadSample 136 = .ok (.return_, 1) := by decide +kernel
theorem dX0_passTo_0 : decode cX0_passTo 0 = .ok (.aload_n 0, 1) := by decide +kernel
theorem dX0_passTo_1 : decode cX0_passTo 1 = .ok (.iload_n 1, 1) := by decide +kernel
theorem dX0_passTo_2 : decode cX0_passTo 2 = .ok (.iload_n 2, 1) := by decide +kernel
theorem dX0_passTo_3 : decode cX0_passTo 3 = .ok (.invokevirtual 50, 3) := by decide +kernel
theorem dX0_passTo_6 : decode cX0_passTo 6 = .ok (.ifCond .eq 21, 3) := by decide +kernel
theorem dX0_passTo_9 : decode cX0_passTo 9 = .ok (.aload_n 0, 1) := by decide +kernel
theorem dX0_passTo_10 : decode cX0_passTo 10 = .ok (.getfield 34, 3) := by decide +kernel
theorem dX0_passTo_13 : decode cX0_passTo 13 = .ok (.aload_n 0, 1) := by decide +kernel
theorem dX0_passTo_14 : decode cX0_passTo 14 = .ok (.iload_n 1, 1) := by decide +kernel
theorem dX0_passTo_15 : decode cX0_passTo 15 = .ok (.iload_n 2, 1) := by decide +kernel
theorem dX0_passTo_16 : decode cX0_passTo 16 = .ok (.invokevirtual 66, 3) := by decide +kernel
theorem dX0_passTo_19 : decode cX0_passTo 19 = .ok (.dup2, 1) := by decide +kernel
theorem dX0_passTo_20 : decode cX0_passTo 20 = .ok (.iaload, 1) := by decide +kernel
theorem dX0_passTo_21 : decode cX0_passTo 21 = .ok (.iload_n 3, 1) := by decide +kernel
theorem dX0_passTo_22 : decode cX0_passTo 22 = .ok (.iadd, 1) := by decide +kernel
theorem dX0_passTo_23 : decode cX0_passTo 23 = .ok (.iastore, 1) := by decide +kernel
theorem dX0_passTo_24 : decode cX0_passTo 24 = .ok (.goto 14, 3) := by decide +kernel
theorem dX0_passTo_27 : decode cX0_passTo 27 = .ok (.aload_n 0, 1) := by decide +kernel
theorem dX0_passTo_28 : decode cX0_passTo 28 = .ok (.dup, 1) := by decide +kernel
theorem dX0_passTo_29 : decode cX0_passTo 29 = .ok (.getfield 101, 3) := by decide +kernel
theorem dX0_passTo_32 : decode cX0_passTo 32 = .ok (.iload_n 3, 1) := by decide +kernel
theorem dX0_passTo_33 : decode cX0_passTo 33 = .ok (.i2l, 1) := by decide +kernel
theorem dX0_passTo_34 : decode cX0_passTo 34 = .ok (.ladd, 1) := by decide +kernel
theorem dX0_passTo_35 : decode cX0_passTo 35 = .ok (.putfield 101, 3) := by decide +kernel
theorem dX0_passTo_38 : decode cX0_passTo 38 = .ok (.return_, 1) := by decide +kernel
theorem dX0_isCells_0 : decode cX0_isCells 0 = .ok (.iload_n 0, 1) := by decide +kernel
theorem dX0_isCells_1 : decode cX0_isCells 1 = .ok (.iconst 1, 1) := by decide +kernel
theorem dX0_isCells_2 : decode cX0_isCells 2 = .ok (.if_icmp .eq 19, 3) := by decide +kernel
theorem dX0_isCells_5 : decode cX0_isCells 5 = .ok (.iload_n 0, 1) := by decide +kernel
theorem dX0_isCells_6 : decode cX0_isCells 6 = .ok (.iconst 2, 1) := by decide +kernel
theorem dX0_isCells_7 : decode cX0_isCells 7 = .ok (.if_icmp .eq 14, 3) := by decide +kernel
theorem dX0_isCells_10 : decode cX0_isCells 10 = .ok (.iload_n 0, 1) := by decide +kernel
theorem dX0_isCells_11 : decode cX0_isCells 11 = .ok (.iconst 4, 1) := by decide +kernel
theorem dX0_isCells_12 : decode cX0_isCells 12 = .ok (.if_icmp .eq 9, 3) := by decide +kernel
theorem dX0_isCells_15 : decode cX0_isCells 15 = .ok (.iload_n 0, 1) := by decide +kernel
theorem dX0_isCells_16 : decode cX0_isCells 16 = .ok (.bipush 8, 2) := by decide +kernel
theorem dX0_isCells_18 : decode cX0_isCells 18 = .ok (.if_icmp .ne 7, 3) := by decide +kernel
theorem dX0_isCells_21 : decode cX0_isCells 21 = .ok (.iconst 1, 1) := by decide +kernel
theorem dX0_isCells_22 : decode cX0_isCells 22 = .ok (.goto 4, 3) := by decide +kernel
theorem dX0_isCells_25 : decode cX0_isCells 25 = .ok (.iconst 0, 1) := by decide +kernel
theorem dX0_isCells_26 : decode cX0_isCells 26 = .ok (.ireturn, 1) := by decide +kernel
theorem dX0_cellNumber_0 : decode cX0_cellNumber 0 = .ok (.iconst 0, 1) := by decide +kernel
theorem dX0_cellNumber_1 : decode cX0_cellNumber 1 = .ok (.istore_n 3, 1) := by decide +kernel
theorem dX0_cellNumber_2 : decode cX0_cellNumber 2 = .ok (.iconst 1, 1) := by decide +kernel
theorem dX0_cellNumber_3 : decode cX0_cellNumber 3 = .ok (.istore 4, 2) := by decide +kernel
theorem dX0_cellNumber_5 : decode cX0_cellNumber 5 = .ok (.iload 4, 2) := by decide +kernel
theorem dX0_cellNumber_7 : decode cX0_cellNumber 7 = .ok (.iload_n 0, 1) := by decide +kernel
theorem dX0_cellNumber_8 : decode cX0_cellNumber 8 = .ok (.if_icmp .ge 51, 3) := by decide +kernel
theorem dX0_cellNumber_11 : decode cX0_cellNumber 11 = .ok (.iload 4, 2) := by decide +kernel
theorem dX0_cellNumber_13 : decode cX0_cellNumber 13 = .ok (.bipush 8, 2) := by decide +kernel
theorem dX0_cellNumber_15 : decode cX0_cellNumber 15 = .ok (.if_icmp .ge 44, 3) := by decide +kernel
theorem dX0_cellNumber_18 : decode cX0_cellNumber 18 = .ok (.iconst 4, 1) := by decide +kernel
theorem dX0_cellNumber_19 : decode cX0_cellNumber 19 = .ok (.iload_n 3, 1) := by decide +kernel
theorem dX0_cellNumber_20 : decode cX0_cellNumber 20 = .ok (.imul, 1) := by decide +kernel
theorem dX0_cellNumber_21 : decode cX0_cellNumber 21 = .ok (.iload_n 1, 1) := by decide +kernel
theorem dX0_cellNumber_22 : decode cX0_cellNumber 22 = .ok (.iload 4, 2) := by decide +kernel
theorem dX0_cellNumber_24 : decode cX0_cellNumber 24 = .ok (.iand, 1) := by decide +kernel
theorem dX0_cellNumber_25 : decode cX0_cellNumber 25 = .ok (.ifCond .eq 7, 3) := by decide +kernel
theorem dX0_cellNumber_28 : decode cX0_cellNumber 28 = .ok (.iconst 1, 1) := by decide +kernel
theorem dX0_cellNumber_29 : decode cX0_cellNumber 29 = .ok (.goto 4, 3) := by decide +kernel
theorem dX0_cellNumber_32 : decode cX0_cellNumber 32 = .ok (.iconst 0, 1) := by decide +kernel
theorem dX0_cellNumber_33 : decode cX0_cellNumber 33 = .ok (.iload_n 2, 1) := by decide +kernel
theorem dX0_cellNumber_34 : decode cX0_cellNumber 34 = .ok (.iload 4, 2) := by decide +kernel
theorem dX0_cellNumber_36 : decode cX0_cellNumber 36 = .ok (.iand, 1) := by decide +kernel
theorem dX0_cellNumber_37 : decode cX0_cellNumber 37 = .ok (.ifCond .eq 7, 3) := by decide +kernel
theorem dX0_cellNumber_40 : decode cX0_cellNumber 40 = .ok (.iconst 1, 1) := by decide +kernel
theorem dX0_cellNumber_41 : decode cX0_cellNumber 41 = .ok (.goto 4, 3) := by decide +kernel
theorem dX0_cellNumber_44 : decode cX0_cellNumber 44 = .ok (.iconst 0, 1) := by decide +kernel
theorem dX0_cellNumber_45 : decode cX0_cellNumber 45 = .ok (.invokestatic 190, 3) := by decide +kernel
theorem dX0_cellNumber_48 : decode cX0_cellNumber 48 = .ok (.iadd, 1) := by decide +kernel
theorem dX0_cellNumber_49 : decode cX0_cellNumber 49 = .ok (.istore_n 3, 1) := by decide +kernel
theorem dX0_cellNumber_50 : decode cX0_cellNumber 50 = .ok (.iload 4, 2) := by decide +kernel
theorem dX0_cellNumber_52 : decode cX0_cellNumber 52 = .ok (.iconst 2, 1) := by decide +kernel
theorem dX0_cellNumber_53 : decode cX0_cellNumber 53 = .ok (.imul, 1) := by decide +kernel
theorem dX0_cellNumber_54 : decode cX0_cellNumber 54 = .ok (.istore 4, 2) := by decide +kernel
theorem dX0_cellNumber_56 : decode cX0_cellNumber 56 = .ok (.goto (-51), 3) := by decide +kernel
theorem dX0_cellNumber_59 : decode cX0_cellNumber 59 = .ok (.iload_n 3, 1) := by decide +kernel
theorem dX0_cellNumber_60 : decode cX0_cellNumber 60 = .ok (.ireturn, 1) := by decide +kernel
theorem dX0_quarterNumber_0 : decode cX0_quarterNumber 0 = .ok (.iload_n 1, 1) := by decide +kernel
theorem dX0_quarterNumber_1 : decode cX0_quarterNumber 1 = .ok (.ifCond .eq 13, 3) := by decide +kernel
theorem dX0_quarterNumber_4 : decode cX0_quarterNumber 4 = .ok (.iload_n 0, 1) := by decide +kernel
theorem dX0_quarterNumber_5 : decode cX0_quarterNumber 5 = .ok (.ifCond .eq 7, 3) := by decide +kernel
theorem dX0_quarterNumber_8 : decode cX0_quarterNumber 8 = .ok (.iconst 1, 1) := by decide +kernel
theorem dX0_quarterNumber_9 : decode cX0_quarterNumber 9 = .ok (.goto 4, 3) := by decide +kernel
theorem dX0_quarterNumber_12 : decode cX0_quarterNumber 12 = .ok (.iconst 3, 1) := by decide +kernel
theorem dX0_quarterNumber_13 : decode cX0_quarterNumber 13 = .ok (.ireturn, 1) := by decide +kernel
theorem dX0_quarterNumber_14 : decode cX0_quarterNumber 14 = .ok (.iload_n 0, 1) := by decide +kernel
theorem dX0_quarterNumber_15 : decode cX0_quarterNumber 15 = .ok (.ifCond .eq 7, 3) := by decide +kernel
theorem dX0_quarterNumber_18 : decode cX0_quarterNumber 18 = .ok (.iconst 2, 1) := by decide +kernel
theorem dX0_quarterNumber_19 : decode cX0_quarterNumber 19 = .ok (.goto 4, 3) := by decide +kernel
theorem dX0_quarterNumber_22 : decode cX0_quarterNumber 22 = .ok (.iconst 0, 1) := by decide +kernel
theorem dX0_quarterNumber_23 : decode cX0_quarterNumber 23 = .ok (.ireturn, 1) := by decide +kernel
theorem dX0_enqueue_0 : decode cX0_enqueue 0 = .ok (.aload_n 0, 1) := by decide +kernel
theorem dX0_enqueue_1 : decode cX0_enqueue 1 = .ok (.getfield 121, 3) := by decide +kernel
theorem dX0_enqueue_4 : decode cX0_enqueue 4 = .ok (.ifCond .lt 35, 3) := by decide +kernel
theorem dX0_enqueue_7 : decode cX0_enqueue 7 = .ok (.aload_n 0, 1) := by decide +kernel
theorem dX0_enqueue_8 : decode cX0_enqueue 8 = .ok (.getfield 121, 3) := by decide +kernel
theorem dX0_enqueue_11 : decode cX0_enqueue 11 = .ok (.aload_n 0, 1) := by decide +kernel
theorem dX0_enqueue_12 : decode cX0_enqueue 12 = .ok (.getfield 47, 3) := by decide +kernel
theorem dX0_enqueue_15 : decode cX0_enqueue 15 = .ok (.arraylength, 1) := by decide +kernel
theorem dX0_enqueue_16 : decode cX0_enqueue 16 = .ok (.if_icmp .ge 23, 3) := by decide +kernel
theorem dX0_enqueue_19 : decode cX0_enqueue 19 = .ok (.aload_n 0, 1) := by decide +kernel
theorem dX0_enqueue_20 : decode cX0_enqueue 20 = .ok (.getfield 47, 3) := by decide +kernel
theorem dX0_enqueue_23 : decode cX0_enqueue 23 = .ok (.aload_n 0, 1) := by decide +kernel
theorem dX0_enqueue_24 : decode cX0_enqueue 24 = .ok (.getfield 121, 3) := by decide +kernel
theorem dX0_enqueue_27 : decode cX0_enqueue 27 = .ok (.iload_n 1, 1) := by decide +kernel
theorem dX0_enqueue_28 : decode cX0_enqueue 28 = .ok (.iastore, 1) := by decide +kernel
theorem dX0_enqueue_29 : decode cX0_enqueue 29 = .ok (.aload_n 0, 1) := by decide +kernel
theorem dX0_enqueue_30 : decode cX0_enqueue 30 = .ok (.dup, 1) := by decide +kernel
theorem dX0_enqueue_31 : decode cX0_enqueue 31 = .ok (.getfield 121, 3) := by decide +kernel
theorem dX0_enqueue_34 : decode cX0_enqueue 34 = .ok (.iconst 1, 1) := by decide +kernel
theorem dX0_enqueue_35 : decode cX0_enqueue 35 = .ok (.iadd, 1) := by decide +kernel
theorem dX0_enqueue_36 : decode cX0_enqueue 36 = .ok (.putfield 121, 3) := by decide +kernel
theorem dX0_enqueue_39 : decode cX0_enqueue 39 = .ok (.return_, 1) := by decide +kernel
theorem dX0_blackenRound_0 : decode cX0_blackenRound 0 = .ok (.iload_n 2, 1) := by decide +kernel
theorem dX0_blackenRound_1 : decode cX0_blackenRound 1 = .ok (.iconst 1, 1) := by decide +kernel
theorem dX0_blackenRound_2 : decode cX0_blackenRound 2 = .ok (.isub, 1) := by decide +kernel
theorem dX0_blackenRound_3 : decode cX0_blackenRound 3 = .ok (.istore 4, 2) := by decide +kernel
theorem dX0_blackenRound_5 : decode cX0_blackenRound 5 = .ok (.iload 4, 2) := by decide +kernel
theorem dX0_blackenRound_7 : decode cX0_blackenRound 7 = .ok (.iload_n 2, 1) := by decide +kernel
theorem dX0_blackenRound_8 : decode cX0_blackenRound 8 = .ok (.iconst 1, 1) := by decide +kernel
theorem dX0_blackenRound_9 : decode cX0_blackenRound 9 = .ok (.iadd, 1) := by decide +kernel
theorem dX0_blackenRound_10 : decode cX0_blackenRound 10 = .ok (.if_icmp .gt 52, 3) := by decide +kernel
theorem dX0_blackenRound_13 : decode cX0_blackenRound 13 = .ok (.iload_n 1, 1) := by decide +kernel
theorem dX0_blackenRound_14 : decode cX0_blackenRound 14 = .ok (.iconst 1, 1) := by decide +kernel
theorem dX0_blackenRound_15 : decode cX0_blackenRound 15 = .ok (.isub, 1) := by decide +kernel
theorem dX0_blackenRound_16 : decode cX0_blackenRound 16 = .ok (.istore 5, 2) := by decide +kernel
theorem dX0_blackenRound_18 : decode cX0_blackenRound 18 = .ok (.iload 5, 2) := by decide +kernel
theorem dX0_blackenRound_20 : decode cX0_blackenRound 20 = .ok (.iload_n 1, 1) := by decide +kernel
theorem dX0_blackenRound_21 : decode cX0_blackenRound 21 = .ok (.iconst 1, 1) := by decide +kernel
theorem dX0_blackenRound_22 : decode cX0_blackenRound 22 = .ok (.iadd, 1) := by decide +kernel
theorem dX0_blackenRound_23 : decode cX0_blackenRound 23 = .ok (.if_icmp .gt 33, 3) := by decide +kernel
theorem dX0_blackenRound_26 : decode cX0_blackenRound 26 = .ok (.aload_n 0, 1) := by decide +kernel
theorem dX0_blackenRound_27 : decode cX0_blackenRound 27 = .ok (.iload 5, 2) := by decide +kernel
theorem dX0_blackenRound_29 : decode cX0_blackenRound 29 = .ok (.iload 4, 2) := by decide +kernel
theorem dX0_blackenRound_31 : decode cX0_blackenRound 31 = .ok (.invokevirtual 50, 3) := by decide +kernel
theorem dX0_blackenRound_34 : decode cX0_blackenRound 34 = .ok (.ifCond .eq 16, 3) := by decide +kernel
theorem dX0_blackenRound_37 : decode cX0_blackenRound 37 = .ok (.aload_n 0, 1) := by decide +kernel
theorem dX0_blackenRound_38 : decode cX0_blackenRound 38 = .ok (.aload_n 0, 1) := by decide +kernel
theorem dX0_blackenRound_39 : decode cX0_blackenRound 39 = .ok (.iload 5, 2) := by decide +kernel
theorem dX0_blackenRound_41 : decode cX0_blackenRound 41 = .ok (.iload 4, 2) := by decide +kernel
theorem dX0_blackenRound_43 : decode cX0_blackenRound 43 = .ok (.invokevirtual 66, 3) := by decide +kernel
theorem dX0_blackenRound_46 : decode cX0_blackenRound 46 = .ok (.iload_n 3, 1) := by decide +kernel
theorem dX0_blackenRound_47 : decode cX0_blackenRound 47 = .ok (.invokevirtual 194, 3) := by decide +kernel
theorem dX0_blackenRound_50 : decode cX0_blackenRound 50 = .ok (.iinc 5 1, 3) := by decide +kernel
theorem dX0_blackenRound_53 : decode cX0_blackenRound 53 = .ok (.goto (-35), 3) := by decide +kernel
theorem dX0_blackenRound_56 : decode cX0_blackenRound 56 = .ok (.iinc 4 1, 3) := by decide +kernel
theorem dX0_blackenRound_59 : decode cX0_blackenRound 59 = .ok (.goto (-54), 3) := by decide +kernel
theorem dX0_blackenRound_62 : decode cX0_blackenRound 62 = .ok (.return_, 1) := by decide +kernel
theorem dX0_blackenUpTo_0 : decode cX0_blackenUpTo 0 = .ok (.aload_n 0, 1) := by decide +kernel
theorem dX0_blackenUpTo_1 : decode cX0_blackenUpTo 1 = .ok (.getfield 27, 3) := by decide +kernel
theorem dX0_blackenUpTo_4 : decode cX0_blackenUpTo 4 = .ok (.iload_n 1, 1) := by decide +kernel
theorem dX0_blackenUpTo_5 : decode cX0_blackenUpTo 5 = .ok (.baload, 1) := by decide +kernel
theorem dX0_blackenUpTo_6 : decode cX0_blackenUpTo 6 = .ok (.ifCond .ne 25, 3) := by decide +kernel
theorem dX0_blackenUpTo_9 : decode cX0_blackenUpTo 9 = .ok (.aload_n 0, 1) := by decide +kernel
theorem dX0_blackenUpTo_10 : decode cX0_blackenUpTo 10 = .ok (.getfield 23, 3) := by decide +kernel
theorem dX0_blackenUpTo_13 : decode cX0_blackenUpTo 13 = .ok (.iload_n 1, 1) := by decide +kernel
theorem dX0_blackenUpTo_14 : decode cX0_blackenUpTo 14 = .ok (.iaload, 1) := by decide +kernel
theorem dX0_blackenUpTo_15 : decode cX0_blackenUpTo 15 = .ok (.iload_n 2, 1) := by decide +kernel
theorem dX0_blackenUpTo_16 : decode cX0_blackenUpTo 16 = .ok (.if_icmp .gt 15, 3) := by decide +kernel
theorem dX0_blackenUpTo_19 : decode cX0_blackenUpTo 19 = .ok (.aload_n 0, 1) := by decide +kernel
theorem dX0_blackenUpTo_20 : decode cX0_blackenUpTo 20 = .ok (.getfield 27, 3) := by decide +kernel
theorem dX0_blackenUpTo_23 : decode cX0_blackenUpTo 23 = .ok (.iload_n 1, 1) := by decide +kernel
theorem dX0_blackenUpTo_24 : decode cX0_blackenUpTo 24 = .ok (.iconst 1, 1) := by decide +kernel
theorem dX0_blackenUpTo_25 : decode cX0_blackenUpTo 25 = .ok (.bastore, 1) := by decide +kernel
theorem dX0_blackenUpTo_26 : decode cX0_blackenUpTo 26 = .ok (.aload_n 0, 1) := by decide +kernel
theorem dX0_blackenUpTo_27 : decode cX0_blackenUpTo 27 = .ok (.iload_n 1, 1) := by decide +kernel
theorem dX0_blackenUpTo_28 : decode cX0_blackenUpTo 28 = .ok (.invokevirtual 124, 3) := by decide +kernel
theorem dX0_blackenUpTo_31 : decode cX0_blackenUpTo 31 = .ok (.return_, 1) := by decide +kernel
theorem dX0_unmarkAll_0 : decode cX0_unmarkAll 0 = .ok (.iconst 0, 1) := by decide +kernel
theorem dX0_unmarkAll_1 : decode cX0_unmarkAll 1 = .ok (.istore_n 1, 1) := by decide +kernel
theorem dX0_unmarkAll_2 : decode cX0_unmarkAll 2 = .ok (.iload_n 1, 1) := by decide +kernel
theorem dX0_unmarkAll_3 : decode cX0_unmarkAll 3 = .ok (.aload_n 0, 1) := by decide +kernel
theorem dX0_unmarkAll_4 : decode cX0_unmarkAll 4 = .ok (.getfield 20, 3) := by decide +kernel
theorem dX0_unmarkAll_7 : decode cX0_unmarkAll 7 = .ok (.if_icmp .ge 16, 3) := by decide +kernel
theorem dX0_unmarkAll_10 : decode cX0_unmarkAll 10 = .ok (.aload_n 0, 1) := by decide +kernel
theorem dX0_unmarkAll_11 : decode cX0_unmarkAll 11 = .ok (.getfield 44, 3) := by decide +kernel
theorem dX0_unmarkAll_14 : decode cX0_unmarkAll 14 = .ok (.iload_n 1, 1) := by decide +kernel
theorem dX0_unmarkAll_15 : decode cX0_unmarkAll 15 = .ok (.iconst 0, 1) := by decide +kernel
theorem dX0_unmarkAll_16 : decode cX0_unmarkAll 16 = .ok (.bastore, 1) := by decide +kernel
theorem dX0_unmarkAll_17 : decode cX0_unmarkAll 17 = .ok (.iinc 1 1, 3) := by decide +kernel
theorem dX0_unmarkAll_20 : decode cX0_unmarkAll 20 = .ok (.goto (-18), 3) := by decide +kernel
theorem dX0_unmarkAll_23 : decode cX0_unmarkAll 23 = .ok (.return_, 1) := by decide +kernel
theorem dX0_gatherPart_0 : decode cX0_gatherPart 0 = .ok (.aload_n 0, 1) := by decide +kernel
theorem dX0_gatherPart_1 : decode cX0_gatherPart 1 = .ok (.iconst 0, 1) := by decide +kernel
theorem dX0_gatherPart_2 : decode cX0_gatherPart 2 = .ok (.putfield 121, 3) := by decide +kernel
theorem dX0_gatherPart_5 : decode cX0_gatherPart 5 = .ok (.aload_n 0, 1) := by decide +kernel
theorem dX0_gatherPart_6 : decode cX0_gatherPart 6 = .ok (.getfield 44, 3) := by decide +kernel
theorem dX0_gatherPart_9 : decode cX0_gatherPart 9 = .ok (.iload_n 1, 1) := by decide +kernel
theorem dX0_gatherPart_10 : decode cX0_gatherPart 10 = .ok (.iconst 1, 1) := by decide +kernel
theorem dX0_gatherPart_11 : decode cX0_gatherPart 11 = .ok (.bastore, 1) := by decide +kernel
theorem dX0_gatherPart_12 : decode cX0_gatherPart 12 = .ok (.aload_n 0, 1) := by decide +kernel
theorem dX0_gatherPart_13 : decode cX0_gatherPart 13 = .ok (.iload_n 1, 1) := by decide +kernel
theorem dX0_gatherPart_14 : decode cX0_gatherPart 14 = .ok (.invokevirtual 124, 3) := by decide +kernel
theorem dX0_gatherPart_17 : decode cX0_gatherPart 17 = .ok (.iconst 0, 1) := by decide +kernel
theorem dX0_gatherPart_18 : decode cX0_gatherPart 18 = .ok (.istore_n 3, 1) := by decide +kernel
theorem dX0_gatherPart_19 : decode cX0_gatherPart 19 = .ok (.iload_n 3, 1) := by decide +kernel
theorem dX0_gatherPart_20 : decode cX0_gatherPart 20 = .ok (.aload_n 0, 1) := by decide +kernel
theorem dX0_gatherPart_21 : decode cX0_gatherPart 21 = .ok (.getfield 20, 3) := by decide +kernel
theorem dX0_gatherPart_24 : decode cX0_gatherPart 24 = .ok (.if_icmp .ge 85, 3) := by decide +kernel
theorem dX0_gatherPart_27 : decode cX0_gatherPart 27 = .ok (.iload_n 3, 1) := by decide +kernel
theorem dX0_gatherPart_28 : decode cX0_gatherPart 28 = .ok (.aload_n 0, 1) := by decide +kernel
theorem dX0_gatherPart_29 : decode cX0_gatherPart 29 = .ok (.getfield 121, 3) := by decide +kernel
theorem dX0_gatherPart_32 : decode cX0_gatherPart 32 = .ok (.if_icmp .ge 77, 3) := by decide +kernel
theorem dX0_gatherPart_35 : decode cX0_gatherPart 35 = .ok (.aload_n 0, 1) := by decide +kernel
theorem dX0_gatherPart_36 : decode cX0_gatherPart 36 = .ok (.aload_n 0, 1) := by decide +kernel
theorem dX0_gatherPart_37 : decode cX0_gatherPart 37 = .ok (.getfield 47, 3) := by decide +kernel
theorem dX0_gatherPart_40 : decode cX0_gatherPart 40 = .ok (.iload_n 3, 1) := by decide +kernel
theorem dX0_gatherPart_41 : decode cX0_gatherPart 41 = .ok (.iaload, 1) := by decide +kernel
theorem dX0_gatherPart_42 : decode cX0_gatherPart 42 = .ok (.invokevirtual 128, 3) := by decide +kernel
theorem dX0_gatherPart_45 : decode cX0_gatherPart 45 = .ok (.istore 4, 2) := by decide +kernel
theorem dX0_gatherPart_47 : decode cX0_gatherPart 47 = .ok (.aload_n 0, 1) := by decide +kernel
theorem dX0_gatherPart_48 : decode cX0_gatherPart 48 = .ok (.aload_n 0, 1) := by decide +kernel
theorem dX0_gatherPart_49 : decode cX0_gatherPart 49 = .ok (.getfield 47, 3) := by decide +kernel
theorem dX0_gatherPart_52 : decode cX0_gatherPart 52 = .ok (.iload_n 3, 1) := by decide +kernel
theorem dX0_gatherPart_53 : decode cX0_gatherPart 53 = .ok (.iaload, 1) := by decide +kernel
theorem dX0_gatherPart_54 : decode cX0_gatherPart 54 = .ok (.invokevirtual 131, 3) := by decide +kernel
theorem dX0_gatherPart_57 : decode cX0_gatherPart 57 = .ok (.istore 5, 2) := by decide +kernel
theorem dX0_gatherPart_59 : decode cX0_gatherPart 59 = .ok (.aload_n 0, 1) := by decide +kernel
theorem dX0_gatherPart_60 : decode cX0_gatherPart 60 = .ok (.iload 4, 2) := by decide +kernel
theorem dX0_gatherPart_62 : decode cX0_gatherPart 62 = .ok (.iconst 1, 1) := by decide +kernel
theorem dX0_gatherPart_63 : decode cX0_gatherPart 63 = .ok (.isub, 1) := by decide +kernel
theorem dX0_gatherPart_64 : decode cX0_gatherPart 64 = .ok (.iload 5, 2) := by decide +kernel
theorem dX0_gatherPart_66 : decode cX0_gatherPart 66 = .ok (.iload_n 2, 1) := by decide +kernel
theorem dX0_gatherPart_67 : decode cX0_gatherPart 67 = .ok (.invokevirtual 197, 3) := by decide +kernel
theorem dX0_gatherPart_70 : decode cX0_gatherPart 70 = .ok (.aload_n 0, 1) := by decide +kernel
theorem dX0_gatherPart_71 : decode cX0_gatherPart 71 = .ok (.iload 4, 2) := by decide +kernel
theorem dX0_gatherPart_73 : decode cX0_gatherPart 73 = .ok (.iconst 1, 1) := by decide +kernel
theorem dX0_gatherPart_74 : decode cX0_gatherPart 74 = .ok (.iadd, 1) := by decide +kernel
theorem dX0_gatherPart_75 : decode cX0_gatherPart 75 = .ok (.iload 5, 2) := by decide +kernel
theorem dX0_gatherPart_77 : decode cX0_gatherPart 77 = .ok (.iload_n 2, 1) := by decide +kernel
theorem dX0_gatherPart_78 : decode cX0_gatherPart 78 = .ok (.invokevirtual 197, 3) := by decide +kernel
theorem dX0_gatherPart_81 : decode cX0_gatherPart 81 = .ok (.aload_n 0, 1) := by decide +kernel
theorem dX0_gatherPart_82 : decode cX0_gatherPart 82 = .ok (.iload 4, 2) := by decide +kernel
theorem dX0_gatherPart_84 : decode cX0_gatherPart 84 = .ok (.iload 5, 2) := by decide +kernel
theorem dX0_gatherPart_86 : decode cX0_gatherPart 86 = .ok (.iconst 1, 1) := by decide +kernel
theorem dX0_gatherPart_87 : decode cX0_gatherPart 87 = .ok (.isub, 1) := by decide +kernel
theorem dX0_gatherPart_88 : decode cX0_gatherPart 88 = .ok (.iload_n 2, 1) := by decide +kernel
theorem dX0_gatherPart_89 : decode cX0_gatherPart 89 = .ok (.invokevirtual 197, 3) := by decide +kernel
theorem dX0_gatherPart_92 : decode cX0_gatherPart 92 = .ok (.aload_n 0, 1) := by decide +kernel
theorem dX0_gatherPart_93 : decode cX0_gatherPart 93 = .ok (.iload 4, 2) := by decide +kernel
theorem dX0_gatherPart_95 : decode cX0_gatherPart 95 = .ok (.iload 5, 2) := by decide +kernel
theorem dX0_gatherPart_97 : decode cX0_gatherPart 97 = .ok (.iconst 1, 1) := by decide +kernel
theorem dX0_gatherPart_98 : decode cX0_gatherPart 98 = .ok (.iadd, 1) := by decide +kernel
theorem dX0_gatherPart_99 : decode cX0_gatherPart 99 = .ok (.iload_n 2, 1) := by decide +kernel
theorem dX0_gatherPart_100 : decode cX0_gatherPart 100 = .ok (.invokevirtual 197, 3) := by decide +kernel
theorem dX0_gatherPart_103 : decode cX0_gatherPart 103 = .ok (.iinc 3 1, 3) := by decide +kernel
theorem dX0_gatherPart_106 : decode cX0_gatherPart 106 = .ok (.goto (-87), 3) := by decide +kernel
theorem dX0_gatherPart_109 : decode cX0_gatherPart 109 = .ok (.return_, 1) := by decide +kernel
theorem dX0_gather_0 : decode cX0_gather 0 = .ok (.aload_n 0, 1) := by decide +kernel
theorem dX0_gather_1 : decode cX0_gather 1 = .ok (.iload_n 1, 1) := by decide +kernel
theorem dX0_gather_2 : decode cX0_gather 2 = .ok (.iload_n 2, 1) := by decide +kernel
theorem dX0_gather_3 : decode cX0_gather 3 = .ok (.invokevirtual 50, 3) := by decide +kernel
theorem dX0_gather_6 : decode cX0_gather 6 = .ok (.ifCond .ne 4, 3) := by decide +kernel
theorem dX0_gather_9 : decode cX0_gather 9 = .ok (.return_, 1) := by decide +kernel
theorem dX0_gather_10 : decode cX0_gather 10 = .ok (.aload_n 0, 1) := by decide +kernel
theorem dX0_gather_11 : decode cX0_gather 11 = .ok (.iload_n 1, 1) := by decide +kernel
theorem dX0_gather_12 : decode cX0_gather 12 = .ok (.iload_n 2, 1) := by decide +kernel
theorem dX0_gather_13 : decode cX0_gather 13 = .ok (.invokevirtual 66, 3) := by decide +kernel
theorem dX0_gather_16 : decode cX0_gather 16 = .ok (.istore 4, 2) := by decide +kernel
theorem dX0_gather_18 : decode cX0_gather 18 = .ok (.aload_n 0, 1) := by decide +kernel
theorem dX0_gather_19 : decode cX0_gather 19 = .ok (.getfield 27, 3) := by decide +kernel
theorem dX0_gather_22 : decode cX0_gather 22 = .ok (.iload 4, 2) := by decide +kernel
theorem dX0_gather_24 : decode cX0_gather 24 = .ok (.baload, 1) := by decide +kernel
theorem dX0_gather_25 : decode cX0_gather 25 = .ok (.iload_n 3, 1) := by decide +kernel
theorem dX0_gather_26 : decode cX0_gather 26 = .ok (.if_icmp .ne 27, 3) := by decide +kernel
theorem dX0_gather_29 : decode cX0_gather 29 = .ok (.aload_n 0, 1) := by decide +kernel
theorem dX0_gather_30 : decode cX0_gather 30 = .ok (.getfield 44, 3) := by decide +kernel
theorem dX0_gather_33 : decode cX0_gather 33 = .ok (.iload 4, 2) := by decide +kernel
theorem dX0_gather_35 : decode cX0_gather 35 = .ok (.baload, 1) := by decide +kernel
theorem dX0_gather_36 : decode cX0_gather 36 = .ok (.ifCond .ne 17, 3) := by decide +kernel
theorem dX0_gather_39 : decode cX0_gather 39 = .ok (.aload_n 0, 1) := by decide +kernel
theorem dX0_gather_40 : decode cX0_gather 40 = .ok (.getfield 44, 3) := by decide +kernel
theorem dX0_gather_43 : decode cX0_gather 43 = .ok (.iload 4, 2) := by decide +kernel
theorem dX0_gather_45 : decode cX0_gather 45 = .ok (.iconst 1, 1) := by decide +kernel
theorem dX0_gather_46 : decode cX0_gather 46 = .ok (.bastore, 1) := by decide +kernel
theorem dX0_gather_47 : decode cX0_gather 47 = .ok (.aload_n 0, 1) := by decide +kernel
theorem dX0_gather_48 : decode cX0_gather 48 = .ok (.iload 4, 2) := by decide +kernel
theorem dX0_gather_50 : decode cX0_gather 50 = .ok (.invokevirtual 124, 3) := by decide +kernel
theorem dX0_gather_53 : decode cX0_gather 53 = .ok (.return_, 1) := by decide +kernel
theorem dX0_countBlackParts_0 : decode cX0_countBlackParts 0 = .ok (.aload_n 0, 1) := by decide +kernel
theorem dX0_countBlackParts_1 : decode cX0_countBlackParts 1 = .ok (.invokevirtual 201, 3) := by decide +kernel
theorem dX0_countBlackParts_4 : decode cX0_countBlackParts 4 = .ok (.iconst 0, 1) := by decide +kernel
theorem dX0_countBlackParts_5 : decode cX0_countBlackParts 5 = .ok (.istore_n 1, 1) := by decide +kernel
theorem dX0_countBlackParts_6 : decode cX0_countBlackParts 6 = .ok (.iconst 0, 1) := by decide +kernel
theorem dX0_countBlackParts_7 : decode cX0_countBlackParts 7 = .ok (.istore_n 2, 1) := by decide +kernel
theorem dX0_countBlackParts_8 : decode cX0_countBlackParts 8 = .ok (.iload_n 2, 1) := by decide +kernel
theorem dX0_countBlackParts_9 : decode cX0_countBlackParts 9 = .ok (.aload_n 0, 1) := by decide +kernel
theorem dX0_countBlackParts_10 : decode cX0_countBlackParts 10 = .ok (.getfield 20, 3) := by decide +kernel
theorem dX0_countBlackParts_13 : decode cX0_countBlackParts 13 = .ok (.if_icmp .ge 36, 3) := by decide +kernel
theorem dX0_countBlackParts_16 : decode cX0_countBlackParts 16 = .ok (.aload_n 0, 1) := by decide +kernel
theorem dX0_countBlackParts_17 : decode cX0_countBlackParts 17 = .ok (.getfield 27, 3) := by decide +kernel
theorem dX0_countBlackParts_20 : decode cX0_countBlackParts 20 = .ok (.iload_n 2, 1) := by decide +kernel
theorem dX0_countBlackParts_21 : decode cX0_countBlackParts 21 = .ok (.baload, 1) := by decide +kernel
theorem dX0_countBlackParts_22 : decode cX0_countBlackParts 22 = .ok (.ifCond .eq 21, 3) := by decide +kernel
theorem dX0_countBlackParts_25 : decode cX0_countBlackParts 25 = .ok (.aload_n 0, 1) := by decide +kernel
theorem dX0_countBlackParts_26 : decode cX0_countBlackParts 26 = .ok (.getfield 44, 3) := by decide +kernel
theorem dX0_countBlackParts_29 : decode cX0_countBlackParts 29 = .ok (.iload_n 2, 1) := by decide +kernel
theorem dX0_countBlackParts_30 : decode cX0_countBlackParts 30 = .ok (.baload, 1) := by decide +kernel
theorem dX0_countBlackParts_31 : decode cX0_countBlackParts 31 = .ok (.ifCond .ne 12, 3) := by decide +kernel
theorem dX0_countBlackParts_34 : decode cX0_countBlackParts 34 = .ok (.aload_n 0, 1) := by decide +kernel
theorem dX0_countBlackParts_35 : decode cX0_countBlackParts 35 = .ok (.iload_n 2, 1) := by decide +kernel
theorem dX0_countBlackParts_36 : decode cX0_countBlackParts 36 = .ok (.iconst 1, 1) := by decide +kernel
theorem dX0_countBlackParts_37 : decode cX0_countBlackParts 37 = .ok (.invokevirtual 204, 3) := by decide +kernel
theorem dX0_countBlackParts_40 : decode cX0_countBlackParts 40 = .ok (.iinc 1 1, 3) := by decide +kernel
theorem dX0_countBlackParts_43 : decode cX0_countBlackParts 43 = .ok (.iinc 2 1, 3) := by decide +kernel
theorem dX0_countBlackParts_46 : decode cX0_countBlackParts 46 = .ok (.goto (-38), 3) := by decide +kernel
theorem dX0_countBlackParts_49 : decode cX0_countBlackParts 49 = .ok (.iload_n 1, 1) := by decide +kernel
theorem dX0_countBlackParts_50 : decode cX0_countBlackParts 50 = .ok (.ireturn, 1) := by decide +kernel
theorem dX0_turnSpecks_0 : decode cX0_turnSpecks 0 = .ok (.aload_n 0, 1) := by decide +kernel
theorem dX0_turnSpecks_1 : decode cX0_turnSpecks 1 = .ok (.invokevirtual 201, 3) := by decide +kernel
theorem dX0_turnSpecks_4 : decode cX0_turnSpecks 4 = .ok (.iconst 0, 1) := by decide +kernel
theorem dX0_turnSpecks_5 : decode cX0_turnSpecks 5 = .ok (.istore_n 3, 1) := by decide +kernel
theorem dX0_turnSpecks_6 : decode cX0_turnSpecks 6 = .ok (.iconst 0, 1) := by decide +kernel
theorem dX0_turnSpecks_7 : decode cX0_turnSpecks 7 = .ok (.istore 4, 2) := by decide +kernel
theorem dX0_turnSpecks_9 : decode cX0_turnSpecks 9 = .ok (.iload 4, 2) := by decide +kernel
theorem dX0_turnSpecks_11 : decode cX0_turnSpecks 11 = .ok (.aload_n 0, 1) := by decide +kernel
theorem dX0_turnSpecks_12 : decode cX0_turnSpecks 12 = .ok (.getfield 20, 3) := by decide +kernel
theorem dX0_turnSpecks_15 : decode cX0_turnSpecks 15 = .ok (.if_icmp .ge 62, 3) := by decide +kernel
theorem dX0_turnSpecks_18 : decode cX0_turnSpecks 18 = .ok (.aload_n 0, 1) := by decide +kernel
theorem dX0_turnSpecks_19 : decode cX0_turnSpecks 19 = .ok (.getfield 27, 3) := by decide +kernel
theorem dX0_turnSpecks_22 : decode cX0_turnSpecks 22 = .ok (.iload 4, 2) := by decide +kernel
theorem dX0_turnSpecks_24 : decode cX0_turnSpecks 24 = .ok (.baload, 1) := by decide +kernel
theorem dX0_turnSpecks_25 : decode cX0_turnSpecks 25 = .ok (.iload_n 1, 1) := by decide +kernel
theorem dX0_turnSpecks_26 : decode cX0_turnSpecks 26 = .ok (.if_icmp .ne 45, 3) := by decide +kernel
theorem dX0_turnSpecks_29 : decode cX0_turnSpecks 29 = .ok (.aload_n 0, 1) := by decide +kernel
theorem dX0_turnSpecks_30 : decode cX0_turnSpecks 30 = .ok (.getfield 44, 3) := by decide +kernel
theorem dX0_turnSpecks_33 : decode cX0_turnSpecks 33 = .ok (.iload 4, 2) := by decide +kernel
theorem dX0_turnSpecks_35 : decode cX0_turnSpecks 35 = .ok (.baload, 1) := by decide +kernel
theorem dX0_turnSpecks_36 : decode cX0_turnSpecks 36 = .ok (.ifCond .ne 35, 3) := by decide +kernel
theorem dX0_turnSpecks_39 : decode cX0_turnSpecks 39 = .ok (.aload_n 0, 1) := by decide +kernel
theorem dX0_turnSpecks_40 : decode cX0_turnSpecks 40 = .ok (.iload 4, 2) := by decide +kernel
theorem dX0_turnSpecks_42 : decode cX0_turnSpecks 42 = .ok (.iload_n 1, 1) := by decide +kernel
theorem dX0_turnSpecks_43 : decode cX0_turnSpecks 43 = .ok (.invokevirtual 204, 3) := by decide +kernel
theorem dX0_turnSpecks_46 : decode cX0_turnSpecks 46 = .ok (.aload_n 0, 1) := by decide +kernel
theorem dX0_turnSpecks_47 : decode cX0_turnSpecks 47 = .ok (.iload_n 1, 1) := by decide +kernel
theorem dX0_turnSpecks_48 : decode cX0_turnSpecks 48 = .ok (.iload_n 2, 1) := by decide +kernel
theorem dX0_turnSpecks_49 : decode cX0_turnSpecks 49 = .ok (.invokevirtual 208, 3) := by decide +kernel
theorem dX0_turnSpecks_52 : decode cX0_turnSpecks 52 = .ok (.ifCond .eq 19, 3) := by decide +kernel
theorem dX0_turnSpecks_55 : decode cX0_turnSpecks 55 = .ok (.iload_n 3, 1) := by decide +kernel
theorem dX0_turnSpecks_56 : decode cX0_turnSpecks 56 = .ok (.aload_n 0, 1) := by decide +kernel
theorem dX0_turnSpecks_57 : decode cX0_turnSpecks 57 = .ok (.iload_n 1, 1) := by decide +kernel
theorem dX0_turnSpecks_58 : decode cX0_turnSpecks 58 = .ok (.ifCond .ne 7, 3) := by decide +kernel
theorem dX0_turnSpecks_61 : decode cX0_turnSpecks 61 = .ok (.iconst 1, 1) := by decide +kernel
theorem dX0_turnSpecks_62 : decode cX0_turnSpecks 62 = .ok (.goto 4, 3) := by decide +kernel
theorem dX0_turnSpecks_65 : decode cX0_turnSpecks 65 = .ok (.iconst 0, 1) := by decide +kernel
theorem dX0_turnSpecks_66 : decode cX0_turnSpecks 66 = .ok (.invokevirtual 212, 3) := by decide +kernel
theorem dX0_turnSpecks_69 : decode cX0_turnSpecks 69 = .ok (.iadd, 1) := by decide +kernel
theorem dX0_turnSpecks_70 : decode cX0_turnSpecks 70 = .ok (.istore_n 3, 1) := by decide +kernel
theorem dX0_turnSpecks_71 : decode cX0_turnSpecks 71 = .ok (.iinc 4 1, 3) := by decide +kernel
theorem dX0_turnSpecks_74 : decode cX0_turnSpecks 74 = .ok (.goto (-65), 3) := by decide +kernel
theorem dX0_turnSpecks_77 : decode cX0_turnSpecks 77 = .ok (.iload_n 3, 1) := by decide +kernel
theorem dX0_turnSpecks_78 : decode cX0_turnSpecks 78 = .ok (.ireturn, 1) := by decide +kernel
theorem dX0_isSpeck_0 : decode cX0_isSpeck 0 = .ok (.aload_n 0, 1) := by decide +kernel
theorem dX0_isSpeck_1 : decode cX0_isSpeck 1 = .ok (.getfield 121, 3) := by decide +kernel
theorem dX0_isSpeck_4 : decode cX0_isSpeck 4 = .ok (.iload_n 2, 1) := by decide +kernel
theorem dX0_isSpeck_5 : decode cX0_isSpeck 5 = .ok (.if_icmp .gt 18, 3) := by decide +kernel
theorem dX0_isSpeck_8 : decode cX0_isSpeck 8 = .ok (.iload_n 1, 1) := by decide +kernel
theorem dX0_isSpeck_9 : decode cX0_isSpeck 9 = .ok (.ifCond .ne 10, 3) := by decide +kernel
theorem dX0_isSpeck_12 : decode cX0_isSpeck 12 = .ok (.aload_n 0, 1) := by decide +kernel
theorem dX0_isSpeck_13 : decode cX0_isSpeck 13 = .ok (.invokevirtual 216, 3) := by decide +kernel
theorem dX0_isSpeck_16 : decode cX0_isSpeck 16 = .ok (.ifCond .ne 7, 3) := by decide +kernel
theorem dX0_isSpeck_19 : decode cX0_isSpeck 19 = .ok (.iconst 1, 1) := by decide +kernel
theorem dX0_isSpeck_20 : decode cX0_isSpeck 20 = .ok (.goto 4, 3) := by decide +kernel
theorem dX0_isSpeck_23 : decode cX0_isSpeck 23 = .ok (.iconst 0, 1) := by decide +kernel
theorem dX0_isSpeck_24 : decode cX0_isSpeck 24 = .ok (.ireturn, 1) := by decide +kernel
theorem dX0_queuedComeToEdge_0 : decode cX0_queuedComeToEdge 0 = .ok (.iconst 0, 1) := by decide +kernel
theorem dX0_queuedComeToEdge_1 : decode cX0_queuedComeToEdge 1 = .ok (.istore_n 1, 1) := by decide +kernel
theorem dX0_queuedComeToEdge_2 : decode cX0_queuedComeToEdge 2 = .ok (.iload_n 1, 1) := by decide +kernel
theorem dX0_queuedComeToEdge_3 : decode cX0_queuedComeToEdge 3 = .ok (.aload_n 0, 1) := by decide +kernel
theorem dX0_queuedComeToEdge_4 : decode cX0_queuedComeToEdge 4 = .ok (.getfield 20, 3) := by decide +kernel
theorem dX0_queuedComeToEdge_7 : decode cX0_queuedComeToEdge 7 = .ok (.if_icmp .ge 69, 3) := by decide +kernel
theorem dX0_queuedComeToEdge_10 : decode cX0_queuedComeToEdge 10 = .ok (.iload_n 1, 1) := by decide +kernel
theorem dX0_queuedComeToEdge_11 : decode cX0_queuedComeToEdge 11 = .ok (.aload_n 0, 1) := by decide +kernel
theorem dX0_queuedComeToEdge_12 : decode cX0_queuedComeToEdge 12 = .ok (.getfield 121, 3) := by decide +kernel
theorem dX0_queuedComeToEdge_15 : decode cX0_queuedComeToEdge 15 = .ok (.if_icmp .ge 61, 3) := by decide +kernel
theorem dX0_queuedComeToEdge_18 : decode cX0_queuedComeToEdge 18 = .ok (.aload_n 0, 1) := by decide +kernel
theorem dX0_queuedComeToEdge_19 : decode cX0_queuedComeToEdge 19 = .ok (.aload_n 0, 1) := by decide +kernel
theorem dX0_queuedComeToEdge_20 : decode cX0_queuedComeToEdge 20 = .ok (.getfield 47, 3) := by decide +kernel
theorem dX0_queuedComeToEdge_23 : decode cX0_queuedComeToEdge 23 = .ok (.iload_n 1, 1) := by decide +kernel
theorem dX0_queuedComeToEdge_24 : decode cX0_queuedComeToEdge 24 = .ok (.iaload, 1) := by decide +kernel
theorem dX0_queuedComeToEdge_25 : decode cX0_queuedComeToEdge 25 = .ok (.invokevirtual 128, 3) := by decide +kernel
theorem dX0_queuedComeToEdge_28 : decode cX0_queuedComeToEdge 28 = .ok (.istore_n 2, 1) := by decide +kernel
theorem dX0_queuedComeToEdge_29 : decode cX0_queuedComeToEdge 29 = .ok (.aload_n 0, 1) := by decide +kernel
theorem dX0_queuedComeToEdge_30 : decode cX0_queuedComeToEdge 30 = .ok (.aload_n 0, 1) := by decide +kernel
theorem dX0_queuedComeToEdge_31 : decode cX0_queuedComeToEdge 31 = .ok (.getfield 47, 3) := by decide +kernel
theorem dX0_queuedComeToEdge_34 : decode cX0_queuedComeToEdge 34 = .ok (.iload_n 1, 1) := by decide +kernel
theorem dX0_queuedComeToEdge_35 : decode cX0_queuedComeToEdge 35 = .ok (.iaload, 1) := by decide +kernel
theorem dX0_queuedComeToEdge_36 : decode cX0_queuedComeToEdge 36 = .ok (.invokevirtual 131, 3) := by decide +kernel
theorem dX0_queuedComeToEdge_39 : decode cX0_queuedComeToEdge 39 = .ok (.istore_n 3, 1) := by decide +kernel
theorem dX0_queuedComeToEdge_40 : decode cX0_queuedComeToEdge 40 = .ok (.iload_n 2, 1) := by decide +kernel
theorem dX0_queuedComeToEdge_41 : decode cX0_queuedComeToEdge 41 = .ok (.ifCond .eq 27, 3) := by decide +kernel
theorem dX0_queuedComeToEdge_44 : decode cX0_queuedComeToEdge 44 = .ok (.iload_n 3, 1) := by decide +kernel
theorem dX0_queuedComeToEdge_45 : decode cX0_queuedComeToEdge 45 = .ok (.ifCond .eq 23, 3) := by decide +kernel
theorem dX0_queuedComeToEdge_48 : decode cX0_queuedComeToEdge 48 = .ok (.iload_n 2, 1) := by decide +kernel
theorem dX0_queuedComeToEdge_49 : decode cX0_queuedComeToEdge 49 = .ok (.aload_n 0, 1) := by decide +kernel
theorem dX0_queuedComeToEdge_50 : decode cX0_queuedComeToEdge 50 = .ok (.getfield 13, 3) := by decide +kernel
theorem dX0_queuedComeToEdge_53 : decode cX0_queuedComeToEdge 53 = .ok (.iconst 1, 1) := by decide +kernel
theorem dX0_queuedComeToEdge_54 : decode cX0_queuedComeToEdge 54 = .ok (.isub, 1) := by decide +kernel
theorem dX0_queuedComeToEdge_55 : decode cX0_queuedComeToEdge 55 = .ok (.if_icmp .eq 13, 3) := by decide +kernel
theorem dX0_queuedComeToEdge_58 : decode cX0_queuedComeToEdge 58 = .ok (.iload_n 3, 1) := by decide +kernel
theorem dX0_queuedComeToEdge_59 : decode cX0_queuedComeToEdge 59 = .ok (.aload_n 0, 1) := by decide +kernel
theorem dX0_queuedComeToEdge_60 : decode cX0_queuedComeToEdge 60 = .ok (.getfield 17, 3) := by decide +kernel
theorem dX0_queuedComeToEdge_63 : decode cX0_queuedComeToEdge 63 = .ok (.iconst 1, 1) := by decide +kernel
theorem dX0_queuedComeToEdge_64 : decode cX0_queuedComeToEdge 64 = .ok (.isub, 1) := by decide +kernel
theorem dX0_queuedComeToEdge_65 : decode cX0_queuedComeToEdge 65 = .ok (.if_icmp .ne 5, 3) := by decide +kernel
theorem dX0_queuedComeToEdge_68 : decode cX0_queuedComeToEdge 68 = .ok (.iconst 1, 1) := by decide +kernel
theorem dX0_queuedComeToEdge_69 : decode cX0_queuedComeToEdge 69 = .ok (.ireturn, 1) := by decide +kernel
theorem dX0_queuedComeToEdge_70 : decode cX0_queuedComeToEdge 70 = .ok (.iinc 1 1, 3) := by decide +kernel
theorem dX0_queuedComeToEdge_73 : decode cX0_queuedComeToEdge 73 = .ok (.goto (-71), 3) := by decide +kernel
theorem dX0_queuedComeToEdge_76 : decode cX0_queuedComeToEdge 76 = .ok (.iconst 0, 1) := by decide +kernel
theorem dX0_queuedComeToEdge_77 : decode cX0_queuedComeToEdge 77 = .ok (.ireturn, 1) := by decide +kernel
theorem dX0_turnQueued_0 : decode cX0_turnQueued 0 = .ok (.iconst 0, 1) := by decide +kernel
theorem dX0_turnQueued_1 : decode cX0_turnQueued 1 = .ok (.istore_n 2, 1) := by decide +kernel
theorem dX0_turnQueued_2 : decode cX0_turnQueued 2 = .ok (.iload_n 2, 1) := by decide +kernel
theorem dX0_turnQueued_3 : decode cX0_turnQueued 3 = .ok (.aload_n 0, 1) := by decide +kernel
theorem dX0_turnQueued_4 : decode cX0_turnQueued 4 = .ok (.getfield 20, 3) := by decide +kernel
theorem dX0_turnQueued_7 : decode cX0_turnQueued 7 = .ok (.if_icmp .ge 43, 3) := by decide +kernel
theorem dX0_turnQueued_10 : decode cX0_turnQueued 10 = .ok (.iload_n 2, 1) := by decide +kernel
theorem dX0_turnQueued_11 : decode cX0_turnQueued 11 = .ok (.aload_n 0, 1) := by decide +kernel
theorem dX0_turnQueued_12 : decode cX0_turnQueued 12 = .ok (.getfield 121, 3) := by decide +kernel
theorem dX0_turnQueued_15 : decode cX0_turnQueued 15 = .ok (.if_icmp .ge 35, 3) := by decide +kernel
theorem dX0_turnQueued_18 : decode cX0_turnQueued 18 = .ok (.aload_n 0, 1) := by decide +kernel
theorem dX0_turnQueued_19 : decode cX0_turnQueued 19 = .ok (.getfield 47, 3) := by decide +kernel
theorem dX0_turnQueued_22 : decode cX0_turnQueued 22 = .ok (.iload_n 2, 1) := by decide +kernel
theorem dX0_turnQueued_23 : decode cX0_turnQueued 23 = .ok (.iaload, 1) := by decide +kernel
theorem dX0_turnQueued_24 : decode cX0_turnQueued 24 = .ok (.istore_n 3, 1) := by decide +kernel
theorem dX0_turnQueued_25 : decode cX0_turnQueued 25 = .ok (.iload_n 3, 1) := by decide +kernel
theorem dX0_turnQueued_26 : decode cX0_turnQueued 26 = .ok (.ifCond .lt 18, 3) := by decide +kernel
theorem dX0_turnQueued_29 : decode cX0_turnQueued 29 = .ok (.iload_n 3, 1) := by decide +kernel
theorem dX0_turnQueued_30 : decode cX0_turnQueued 30 = .ok (.aload_n 0, 1) := by decide +kernel
theorem dX0_turnQueued_31 : decode cX0_turnQueued 31 = .ok (.getfield 20, 3) := by decide +kernel
theorem dX0_turnQueued_34 : decode cX0_turnQueued 34 = .ok (.if_icmp .ge 10, 3) := by decide +kernel
theorem dX0_turnQueued_37 : decode cX0_turnQueued 37 = .ok (.aload_n 0, 1) := by decide +kernel
theorem dX0_turnQueued_38 : decode cX0_turnQueued 38 = .ok (.getfield 27, 3) := by decide +kernel
theorem dX0_turnQueued_41 : decode cX0_turnQueued 41 = .ok (.iload_n 3, 1) := by decide +kernel
theorem dX0_turnQueued_42 : decode cX0_turnQueued 42 = .ok (.iload_n 1, 1) := by decide +kernel
theorem dX0_turnQueued_43 : decode cX0_turnQueued 43 = .ok (.bastore, 1) := by decide +kernel
theorem dX0_turnQueued_44 : decode cX0_turnQueued 44 = .ok (.iinc 2 1, 3) := by decide +kernel
theorem dX0_turnQueued_47 : decode cX0_turnQueued 47 = .ok (.goto (-45), 3) := by decide +kernel
theorem dX0_turnQueued_50 : decode cX0_turnQueued 50 = .ok (.aload_n 0, 1) := by decide +kernel
theorem dX0_turnQueued_51 : decode cX0_turnQueued 51 = .ok (.getfield 121, 3) := by decide +kernel
theorem dX0_turnQueued_54 : decode cX0_turnQueued 54 = .ok (.ireturn, 1) := by decide +kernel
theorem dX0_isEdge_0 : decode cX0_isEdge 0 = .ok (.aload_n 0, 1) := by decide +kernel
theorem dX0_isEdge_1 : decode cX0_isEdge 1 = .ok (.iload_n 1, 1) := by decide +kernel
theorem dX0_isEdge_2 : decode cX0_isEdge 2 = .ok (.iload_n 2, 1) := by decide +kernel
theorem dX0_isEdge_3 : decode cX0_isEdge 3 = .ok (.invokevirtual 220, 3) := by decide +kernel
theorem dX0_isEdge_6 : decode cX0_isEdge 6 = .ok (.ifCond .eq 51, 3) := by decide +kernel
theorem dX0_isEdge_9 : decode cX0_isEdge 9 = .ok (.aload_n 0, 1) := by decide +kernel
theorem dX0_isEdge_10 : decode cX0_isEdge 10 = .ok (.iload_n 1, 1) := by decide +kernel
theorem dX0_isEdge_11 : decode cX0_isEdge 11 = .ok (.iconst 1, 1) := by decide +kernel
theorem dX0_isEdge_12 : decode cX0_isEdge 12 = .ok (.isub, 1) := by decide +kernel
theorem dX0_isEdge_13 : decode cX0_isEdge 13 = .ok (.iload_n 2, 1) := by decide +kernel
theorem dX0_isEdge_14 : decode cX0_isEdge 14 = .ok (.invokevirtual 220, 3) := by decide +kernel
theorem dX0_isEdge_17 : decode cX0_isEdge 17 = .ok (.ifCond .eq 36, 3) := by decide +kernel
theorem dX0_isEdge_20 : decode cX0_isEdge 20 = .ok (.aload_n 0, 1) := by decide +kernel
theorem dX0_isEdge_21 : decode cX0_isEdge 21 = .ok (.iload_n 1, 1) := by decide +kernel
theorem dX0_isEdge_22 : decode cX0_isEdge 22 = .ok (.iconst 1, 1) := by decide +kernel
theorem dX0_isEdge_23 : decode cX0_isEdge 23 = .ok (.iadd, 1) := by decide +kernel
theorem dX0_isEdge_24 : decode cX0_isEdge 24 = .ok (.iload_n 2, 1) := by decide +kernel
theorem dX0_isEdge_25 : decode cX0_isEdge 25 = .ok (.invokevirtual 220, 3) := by decide +kernel
theorem dX0_isEdge_28 : decode cX0_isEdge 28 = .ok (.ifCond .eq 25, 3) := by decide +kernel
theorem dX0_isEdge_31 : decode cX0_isEdge 31 = .ok (.aload_n 0, 1) := by decide +kernel
theorem dX0_isEdge_32 : decode cX0_isEdge 32 = .ok (.iload_n 1, 1) := by decide +kernel
theorem dX0_isEdge_33 : decode cX0_isEdge 33 = .ok (.iload_n 2, 1) := by decide +kernel
theorem dX0_isEdge_34 : decode cX0_isEdge 34 = .ok (.iconst 1, 1) := by decide +kernel
theorem dX0_isEdge_35 : decode cX0_isEdge 35 = .ok (.isub, 1) := by decide +kernel
theorem dX0_isEdge_36 : decode cX0_isEdge 36 = .ok (.invokevirtual 220, 3) := by decide +kernel
theorem dX0_isEdge_39 : decode cX0_isEdge 39 = .ok (.ifCond .eq 14, 3) := by decide +kernel
theorem dX0_isEdge_42 : decode cX0_isEdge 42 = .ok (.aload_n 0, 1) := by decide +kernel
theorem dX0_isEdge_43 : decode cX0_isEdge 43 = .ok (.iload_n 1, 1) := by decide +kernel
theorem dX0_isEdge_44 : decode cX0_isEdge 44 = .ok (.iload_n 2, 1) := by decide +kernel
theorem dX0_isEdge_45 : decode cX0_isEdge 45 = .ok (.iconst 1, 1) := by decide +kernel
theorem dX0_isEdge_46 : decode cX0_isEdge 46 = .ok (.iadd, 1) := by decide +kernel
theorem dX0_isEdge_47 : decode cX0_isEdge 47 = .ok (.invokevirtual 220, 3) := by decide +kernel
theorem dX0_isEdge_50 : decode cX0_isEdge 50 = .ok (.ifCond .ne 7, 3) := by decide +kernel
theorem dX0_isEdge_53 : decode cX0_isEdge 53 = .ok (.iconst 1, 1) := by decide +kernel
theorem dX0_isEdge_54 : decode cX0_isEdge 54 = .ok (.goto 4, 3) := by decide +kernel
theorem dX0_isEdge_57 : decode cX0_isEdge 57 = .ok (.iconst 0, 1) := by decide +kernel
theorem dX0_isEdge_58 : decode cX0_isEdge 58 = .ok (.ireturn, 1) := by decide +kernel
theorem dX0_isBlack_0 : decode cX0_isBlack 0 = .ok (.aload_n 0, 1) := by decide +kernel
theorem dX0_isBlack_1 : decode cX0_isBlack 1 = .ok (.iload_n 1, 1) := by decide +kernel
theorem dX0_isBlack_2 : decode cX0_isBlack 2 = .ok (.iload_n 2, 1) := by decide +kernel
theorem dX0_isBlack_3 : decode cX0_isBlack 3 = .ok (.invokevirtual 50, 3) := by decide +kernel
theorem dX0_isBlack_6 : decode cX0_isBlack 6 = .ok (.ifCond .eq 21, 3) := by decide +kernel
theorem dX0_isBlack_9 : decode cX0_isBlack 9 = .ok (.aload_n 0, 1) := by decide +kernel
theorem dX0_isBlack_10 : decode cX0_isBlack 10 = .ok (.getfield 27, 3) := by decide +kernel
theorem dX0_isBlack_13 : decode cX0_isBlack 13 = .ok (.aload_n 0, 1) := by decide +kernel
theorem dX0_isBlack_14 : decode cX0_isBlack 14 = .ok (.iload_n 1, 1) := by decide +kernel
theorem dX0_isBlack_15 : decode cX0_isBlack 15 = .ok (.iload_n 2, 1) := by decide +kernel
theorem dX0_isBlack_16 : decode cX0_isBlack 16 = .ok (.invokevirtual 66, 3) := by decide +kernel
theorem dX0_isBlack_19 : decode cX0_isBlack 19 = .ok (.baload, 1) := by decide +kernel
theorem dX0_isBlack_20 : decode cX0_isBlack 20 = .ok (.ifCond .eq 7, 3) := by decide +kernel
theorem dX0_isBlack_23 : decode cX0_isBlack 23 = .ok (.iconst 1, 1) := by decide +kernel
theorem dX0_isBlack_24 : decode cX0_isBlack 24 = .ok (.goto 4, 3) := by decide +kernel
theorem dX0_isBlack_27 : decode cX0_isBlack 27 = .ok (.iconst 0, 1) := by decide +kernel
theorem dX0_isBlack_28 : decode cX0_isBlack 28 = .ok (.ireturn, 1) := by decide +kernel
theorem dJ9_floorMod_7cf53_0 : decode cJ9_floorMod_7cf53 0 = .ok (.iload_n 0, 1) := by decide +kernel
theorem dJ9_floorMod_7cf53_1 : decode cJ9_floorMod_7cf53 1 = .ok (.iload_n 1, 1) := by decide +kernel
theorem dJ9_floorMod_7cf53_2 : decode cJ9_floorMod_7cf53 2 = .ok (.irem, 1) := by decide +kernel
theorem dJ9_floorMod_7cf53_3 : decode cJ9_floorMod_7cf53 3 = .ok (.istore_n 2, 1) := by decide +kernel
theorem dJ9_floorMod_7cf53_4 : decode cJ9_floorMod_7cf53 4 = .ok (.iload_n 0, 1) := by decide +kernel
theorem dJ9_floorMod_7cf53_5 : decode cJ9_floorMod_7cf53 5 = .ok (.iload_n 1, 1) := by decide +kernel
theorem dJ9_floorMod_7cf53_6 : decode cJ9_floorMod_7cf53 6 = .ok (.ixor, 1) := by decide +kernel
theorem dJ9_floorMod_7cf53_7 : decode cJ9_floorMod_7cf53 7 = .ok (.ifCond .ge 11, 3) := by decide +kernel
theorem dJ9_floorMod_7cf53_10 : decode cJ9_floorMod_7cf53 10 = .ok (.iload_n 2, 1) := by decide +kernel
theorem dJ9_floorMod_7cf53_11 : decode cJ9_floorMod_7cf53 11 = .ok (.ifCond .eq 7, 3) := by decide +kernel
theorem dJ9_floorMod_7cf53_14 : decode cJ9_floorMod_7cf53 14 = .ok (.iload_n 2, 1) := by decide +kernel
theorem dJ9_floorMod_7cf53_15 : decode cJ9_floorMod_7cf53 15 = .ok (.iload_n 1, 1) := by decide +kernel
theorem dJ9_floorMod_7cf53_16 : decode cJ9_floorMod_7cf53 16 = .ok (.iadd, 1) := by decide +kernel
theorem dJ9_floorMod_7cf53_17 : decode cJ9_floorMod_7cf53 17 = .ok (.ireturn, 1) := by decide +kernel
theorem dJ9_floorMod_7cf53_18 : decode cJ9_floorMod_7cf53 18 = .ok (.iload_n 2, 1) := by decide +kernel
theorem dJ9_floorMod_7cf53_19 : decode cJ9_floorMod_7cf53 19 = .ok (.ireturn, 1) := by decide +kernel
theorem dJ9_max_7cf53_0 : decode cJ9_max_7cf53 0 = .ok (.iload_n 0, 1) := by decide +kernel
theorem dJ9_max_7cf53_1 : decode cJ9_max_7cf53 1 = .ok (.iload_n 1, 1) := by decide +kernel
theorem dJ9_max_7cf53_2 : decode cJ9_max_7cf53 2 = .ok (.if_icmp .lt 7, 3) := by decide +kernel
theorem dJ9_max_7cf53_5 : decode cJ9_max_7cf53 5 = .ok (.iload_n 0, 1) := by decide +kernel
theorem dJ9_max_7cf53_6 : decode cJ9_max_7cf53 6 = .ok (.goto 4, 3) := by decide +kernel
theorem dJ9_max_7cf53_9 : decode cJ9_max_7cf53 9 = .ok (.iload_n 1, 1) := by decide +kernel
theorem dJ9_max_7cf53_10 : decode cJ9_max_7cf53 10 = .ok (.ireturn, 1) := by decide +kernel
theorem dJ9_min_7cf53_0 : decode cJ9_min_7cf53 0 = .ok (.iload_n 0, 1) := by decide +kernel
theorem dJ9_min_7cf53_1 : decode cJ9_min_7cf53 1 = .ok (.iload_n 1, 1) := by decide +kernel
theorem dJ9_min_7cf53_2 : decode cJ9_min_7cf53 2 = .ok (.if_icmp .gt 7, 3) := by decide +kernel
theorem dJ9_min_7cf53_5 : decode cJ9_min_7cf53 5 = .ok (.iload_n 0, 1) := by decide +kernel
theorem dJ9_min_7cf53_6 : decode cJ9_min_7cf53 6 = .ok (.goto 4, 3) := by decide +kernel
theorem dJ9_min_7cf53_9 : decode cJ9_min_7cf53 9 = .ok (.iload_n 1, 1) := by decide +kernel
theorem dJ9_min_7cf53_10 : decode cJ9_min_7cf53 10 = .ok (.ireturn, 1) := by decide +kernel
theorem dJ7_fill_53178_0 : decode cJ7_fill_53178 0 = .ok (.iconst 0, 1) := by decide +kernel
theorem dJ7_fill_53178_1 : decode cJ7_fill_53178 1 = .ok (.istore_n 2, 1) := by decide +kernel
theorem dJ7_fill_53178_2 : decode cJ7_fill_53178 2 = .ok (.aload_n 0, 1) := by decide +kernel
theorem dJ7_fill_53178_3 : decode cJ7_fill_53178 3 = .ok (.arraylength, 1) := by decide +kernel
theorem dJ7_fill_53178_4 : decode cJ7_fill_53178 4 = .ok (.istore_n 3, 1) := by decide +kernel
theorem dJ7_fill_53178_5 : decode cJ7_fill_53178 5 = .ok (.iload_n 2, 1) := by decide +kernel
theorem dJ7_fill_53178_6 : decode cJ7_fill_53178 6 = .ok (.iload_n 3, 1) := by decide +kernel
theorem dJ7_fill_53178_7 : decode cJ7_fill_53178 7 = .ok (.if_icmp .ge 13, 3) := by decide +kernel
theorem dJ7_fill_53178_10 : decode cJ7_fill_53178 10 = .ok (.aload_n 0, 1) := by decide +kernel
theorem dJ7_fill_53178_11 : decode cJ7_fill_53178 11 = .ok (.iload_n 2, 1) := by decide +kernel
theorem dJ7_fill_53178_12 : decode cJ7_fill_53178 12 = .ok (.iload_n 1, 1) := by decide +kernel
theorem dJ7_fill_53178_13 : decode cJ7_fill_53178 13 = .ok (.iastore, 1) := by decide +kernel
theorem dJ7_fill_53178_14 : decode cJ7_fill_53178 14 = .ok (.iinc 2 1, 3) := by decide +kernel
theorem dJ7_fill_53178_17 : decode cJ7_fill_53178 17 = .ok (.goto (-12), 3) := by decide +kernel
theorem dJ7_fill_53178_20 : decode cJ7_fill_53178 20 = .ok (.return_, 1) := by decide +kernel
