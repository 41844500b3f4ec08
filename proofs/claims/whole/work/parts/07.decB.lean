theorem dX1_init_0 : decode cX1_init 0 = .ok (.aload_n 0, 1) := by decide +kernel
theorem dX1_init_1 : decode cX1_init 1 = .ok (.invokespecial 1, 3) := by decide +kernel
theorem dX1_init_4 : decode cX1_init 4 = .ok (.aload_n 0, 1) := by decide +kernel
theorem dX1_init_5 : decode cX1_init 5 = .ok (.sipush 256, 3) := by decide +kernel
theorem dX1_init_8 : decode cX1_init 8 = .ok (.newarray .int, 2) := by decide +kernel
theorem dX1_init_10 : decode cX1_init 10 = .ok (.putfield 7, 3) := by decide +kernel
theorem dX1_init_13 : decode cX1_init 13 = .ok (.aload_n 0, 1) := by decide +kernel
theorem dX1_init_14 : decode cX1_init 14 = .ok (.sipush 256, 3) := by decide +kernel
theorem dX1_init_17 : decode cX1_init 17 = .ok (.newarray .boolean, 2) := by decide +kernel
theorem dX1_init_19 : decode cX1_init 19 = .ok (.putfield 13, 3) := by decide +kernel
theorem dX1_init_22 : decode cX1_init 22 = .ok (.aload_n 0, 1) := by decide +kernel
theorem dX1_init_23 : decode cX1_init 23 = .ok (.sipush 256, 3) := by decide +kernel
theorem dX1_init_26 : decode cX1_init 26 = .ok (.newarray .boolean, 2) := by decide +kernel
theorem dX1_init_28 : decode cX1_init 28 = .ok (.putfield 17, 3) := by decide +kernel
theorem dX1_init_31 : decode cX1_init 31 = .ok (.aload_n 0, 1) := by decide +kernel
theorem dX1_init_32 : decode cX1_init 32 = .ok (.sipush 256, 3) := by decide +kernel
theorem dX1_init_35 : decode cX1_init 35 = .ok (.newarray .int, 2) := by decide +kernel
theorem dX1_init_37 : decode cX1_init 37 = .ok (.putfield 20, 3) := by decide +kernel
theorem dX1_init_40 : decode cX1_init 40 = .ok (.aload_n 0, 1) := by decide +kernel
theorem dX1_init_41 : decode cX1_init 41 = .ok (.sipush 256, 3) := by decide +kernel
theorem dX1_init_44 : decode cX1_init 44 = .ok (.newarray .int, 2) := by decide +kernel
theorem dX1_init_46 : decode cX1_init 46 = .ok (.putfield 23, 3) := by decide +kernel
theorem dX1_init_49 : decode cX1_init 49 = .ok (.aload_n 0, 1) := by decide +kernel
theorem dX1_init_50 : decode cX1_init 50 = .ok (.iload_n 1, 1) := by decide +kernel
theorem dX1_init_51 : decode cX1_init 51 = .ok (.iconst 1, 1) := by decide +kernel
theorem dX1_init_52 : decode cX1_init 52 = .ok (.if_icmp .ge 7, 3) := by decide +kernel
theorem dX1_init_55 : decode cX1_init 55 = .ok (.iconst 1, 1) := by decide +kernel
theorem dX1_init_56 : decode cX1_init 56 = .ok (.goto 15, 3) := by decide +kernel
theorem dX1_init_59 : decode cX1_init 59 = .ok (.iload_n 1, 1) := by decide +kernel
theorem dX1_init_60 : decode cX1_init 60 = .ok (.bipush 16, 2) := by decide +kernel
theorem dX1_init_62 : decode cX1_init 62 = .ok (.if_icmp .le 8, 3) := by decide +kernel
theorem dX1_init_65 : decode cX1_init 65 = .ok (.bipush 16, 2) := by decide +kernel
theorem dX1_init_67 : decode cX1_init 67 = .ok (.goto 4, 3) := by decide +kernel
theorem dX1_init_70 : decode cX1_init 70 = .ok (.iload_n 1, 1) := by decide +kernel
theorem dX1_init_71 : decode cX1_init 71 = .ok (.putfield 26, 3) := by decide +kernel
theorem dX1_init_74 : decode cX1_init 74 = .ok (.aload_n 0, 1) := by decide +kernel
theorem dX1_init_75 : decode cX1_init 75 = .ok (.iload_n 2, 1) := by decide +kernel
theorem dX1_init_76 : decode cX1_init 76 = .ok (.iconst 1, 1) := by decide +kernel
theorem dX1_init_77 : decode cX1_init 77 = .ok (.if_icmp .ge 7, 3) := by decide +kernel
theorem dX1_init_80 : decode cX1_init 80 = .ok (.iconst 1, 1) := by decide +kernel
theorem dX1_init_81 : decode cX1_init 81 = .ok (.goto 15, 3) := by decide +kernel
theorem dX1_init_84 : decode cX1_init 84 = .ok (.iload_n 2, 1) := by decide +kernel
theorem dX1_init_85 : decode cX1_init 85 = .ok (.bipush 16, 2) := by decide +kernel
theorem dX1_init_87 : decode cX1_init 87 = .ok (.if_icmp .le 8, 3) := by decide +kernel
theorem dX1_init_90 : decode cX1_init 90 = .ok (.bipush 16, 2) := by decide +kernel
theorem dX1_init_92 : decode cX1_init 92 = .ok (.goto 4, 3) := by decide +kernel
theorem dX1_init_95 : decode cX1_init 95 = .ok (.iload_n 2, 1) := by decide +kernel
theorem dX1_init_96 : decode cX1_init 96 = .ok (.putfield 30, 3) := by decide +kernel
theorem dX1_init_99 : decode cX1_init 99 = .ok (.return_, 1) := by decide +kernel
theorem dX1_thrown_0 : decode cX1_thrown 0 = .ok (.aload_n 0, 1) := by decide +kernel
theorem dX1_thrown_1 : decode cX1_thrown 1 = .ok (.getfield 33, 3) := by decide +kernel
theorem dX1_thrown_4 : decode cX1_thrown 4 = .ok (.ireturn, 1) := by decide +kernel
theorem dX1_isIn_0 : decode cX1_isIn 0 = .ok (.iload_n 1, 1) := by decide +kernel
theorem dX1_isIn_1 : decode cX1_isIn 1 = .ok (.ifCond .lt 27, 3) := by decide +kernel
theorem dX1_isIn_4 : decode cX1_isIn 4 = .ok (.iload_n 1, 1) := by decide +kernel
theorem dX1_isIn_5 : decode cX1_isIn 5 = .ok (.aload_n 0, 1) := by decide +kernel
theorem dX1_isIn_6 : decode cX1_isIn 6 = .ok (.getfield 26, 3) := by decide +kernel
theorem dX1_isIn_9 : decode cX1_isIn 9 = .ok (.if_icmp .ge 19, 3) := by decide +kernel
theorem dX1_isIn_12 : decode cX1_isIn 12 = .ok (.iload_n 2, 1) := by decide +kernel
theorem dX1_isIn_13 : decode cX1_isIn 13 = .ok (.ifCond .lt 15, 3) := by decide +kernel
theorem dX1_isIn_16 : decode cX1_isIn 16 = .ok (.iload_n 2, 1) := by decide +kernel
theorem dX1_isIn_17 : decode cX1_isIn 17 = .ok (.aload_n 0, 1) := by decide +kernel
theorem dX1_isIn_18 : decode cX1_isIn 18 = .ok (.getfield 30, 3) := by decide +kernel
theorem dX1_isIn_21 : decode cX1_isIn 21 = .ok (.if_icmp .ge 7, 3) := by decide +kernel
theorem dX1_isIn_24 : decode cX1_isIn 24 = .ok (.iconst 1, 1) := by decide +kernel
theorem dX1_isIn_25 : decode cX1_isIn 25 = .ok (.goto 4, 3) := by decide +kernel
theorem dX1_isIn_28 : decode cX1_isIn 28 = .ok (.iconst 0, 1) := by decide +kernel
theorem dX1_isIn_29 : decode cX1_isIn 29 = .ok (.ireturn, 1) := by decide +kernel
theorem dX1_all_0 : decode cX1_all 0 = .ok (.aload_n 0, 1) := by decide +kernel
theorem dX1_all_1 : decode cX1_all 1 = .ok (.getfield 26, 3) := by decide +kernel
theorem dX1_all_4 : decode cX1_all 4 = .ok (.aload_n 0, 1) := by decide +kernel
theorem dX1_all_5 : decode cX1_all 5 = .ok (.getfield 30, 3) := by decide +kernel
theorem dX1_all_8 : decode cX1_all 8 = .ok (.imul, 1) := by decide +kernel
theorem dX1_all_9 : decode cX1_all 9 = .ok (.ireturn, 1) := by decide +kernel
theorem dX1_put_0 : decode cX1_put 0 = .ok (.aload_n 0, 1) := by decide +kernel
theorem dX1_put_1 : decode cX1_put 1 = .ok (.aload_n 0, 1) := by decide +kernel
theorem dX1_put_2 : decode cX1_put 2 = .ok (.iload_n 1, 1) := by decide +kernel
theorem dX1_put_3 : decode cX1_put 3 = .ok (.iload_n 2, 1) := by decide +kernel
theorem dX1_put_4 : decode cX1_put 4 = .ok (.invokevirtual 36, 3) := by decide +kernel
theorem dX1_put_7 : decode cX1_put 7 = .ok (.ifCond .ne 7, 3) := by decide +kernel
theorem dX1_put_10 : decode cX1_put 10 = .ok (.iconst 1, 1) := by decide +kernel
theorem dX1_put_11 : decode cX1_put 11 = .ok (.goto 19, 3) := by decide +kernel
theorem dX1_put_14 : decode cX1_put 14 = .ok (.iload_n 3, 1) := by decide +kernel
theorem dX1_put_15 : decode cX1_put 15 = .ok (.ifCond .lt 10, 3) := by decide +kernel
theorem dX1_put_18 : decode cX1_put 18 = .ok (.iload_n 3, 1) := by decide +kernel
theorem dX1_put_19 : decode cX1_put 19 = .ok (.sipush 255, 3) := by decide +kernel
theorem dX1_put_22 : decode cX1_put 22 = .ok (.if_icmp .le 7, 3) := by decide +kernel
theorem dX1_put_25 : decode cX1_put 25 = .ok (.iconst 2, 1) := by decide +kernel
theorem dX1_put_26 : decode cX1_put 26 = .ok (.goto 4, 3) := by decide +kernel
theorem dX1_put_29 : decode cX1_put 29 = .ok (.iconst 0, 1) := by decide +kernel
theorem dX1_put_30 : decode cX1_put 30 = .ok (.putfield 33, 3) := by decide +kernel
theorem dX1_put_33 : decode cX1_put 33 = .ok (.aload_n 0, 1) := by decide +kernel
theorem dX1_put_34 : decode cX1_put 34 = .ok (.getfield 33, 3) := by decide +kernel
theorem dX1_put_37 : decode cX1_put 37 = .ok (.ifCond .le 5, 3) := by decide +kernel
theorem dX1_put_40 : decode cX1_put 40 = .ok (.iconst 0, 1) := by decide +kernel
theorem dX1_put_41 : decode cX1_put 41 = .ok (.ireturn, 1) := by decide +kernel
theorem dX1_put_42 : decode cX1_put 42 = .ok (.aload_n 0, 1) := by decide +kernel
theorem dX1_put_43 : decode cX1_put 43 = .ok (.getfield 7, 3) := by decide +kernel
theorem dX1_put_46 : decode cX1_put 46 = .ok (.aload_n 0, 1) := by decide +kernel
theorem dX1_put_47 : decode cX1_put 47 = .ok (.getfield 26, 3) := by decide +kernel
theorem dX1_put_50 : decode cX1_put 50 = .ok (.iload_n 2, 1) := by decide +kernel
theorem dX1_put_51 : decode cX1_put 51 = .ok (.imul, 1) := by decide +kernel
theorem dX1_put_52 : decode cX1_put 52 = .ok (.iload_n 1, 1) := by decide +kernel
theorem dX1_put_53 : decode cX1_put 53 = .ok (.iadd, 1) := by decide +kernel
theorem dX1_put_54 : decode cX1_put 54 = .ok (.iaload, 1) := by decide +kernel
theorem dX1_put_55 : decode cX1_put 55 = .ok (.istore 4, 2) := by decide +kernel
theorem dX1_put_57 : decode cX1_put 57 = .ok (.aload_n 0, 1) := by decide +kernel
theorem dX1_put_58 : decode cX1_put 58 = .ok (.getfield 7, 3) := by decide +kernel
theorem dX1_put_61 : decode cX1_put 61 = .ok (.aload_n 0, 1) := by decide +kernel
theorem dX1_put_62 : decode cX1_put 62 = .ok (.getfield 26, 3) := by decide +kernel
theorem dX1_put_65 : decode cX1_put 65 = .ok (.iload_n 2, 1) := by decide +kernel
theorem dX1_put_66 : decode cX1_put 66 = .ok (.imul, 1) := by decide +kernel
theorem dX1_put_67 : decode cX1_put 67 = .ok (.iload_n 1, 1) := by decide +kernel
theorem dX1_put_68 : decode cX1_put 68 = .ok (.iadd, 1) := by decide +kernel
theorem dX1_put_69 : decode cX1_put 69 = .ok (.iload_n 3, 1) := by decide +kernel
theorem dX1_put_70 : decode cX1_put 70 = .ok (.iastore, 1) := by decide +kernel
theorem dX1_put_71 : decode cX1_put 71 = .ok (.iload 4, 2) := by decide +kernel
theorem dX1_put_73 : decode cX1_put 73 = .ok (.ireturn, 1) := by decide +kernel
theorem dX1_paint_0 : decode cX1_paint 0 = .ok (.aload_n 0, 1) := by decide +kernel
theorem dX1_paint_1 : decode cX1_paint 1 = .ok (.iconst 0, 1) := by decide +kernel
theorem dX1_paint_2 : decode cX1_paint 2 = .ok (.putfield 33, 3) := by decide +kernel
theorem dX1_paint_5 : decode cX1_paint 5 = .ok (.iconst 0, 1) := by decide +kernel
theorem dX1_paint_6 : decode cX1_paint 6 = .ok (.istore_n 3, 1) := by decide +kernel
theorem dX1_paint_7 : decode cX1_paint 7 = .ok (.iconst 0, 1) := by decide +kernel
theorem dX1_paint_8 : decode cX1_paint 8 = .ok (.istore 4, 2) := by decide +kernel
theorem dX1_paint_10 : decode cX1_paint 10 = .ok (.iload 4, 2) := by decide +kernel
theorem dX1_paint_12 : decode cX1_paint 12 = .ok (.aload_n 0, 1) := by decide +kernel
theorem dX1_paint_13 : decode cX1_paint 13 = .ok (.invokevirtual 40, 3) := by decide +kernel
theorem dX1_paint_16 : decode cX1_paint 16 = .ok (.if_icmp .ge 50, 3) := by decide +kernel
theorem dX1_paint_19 : decode cX1_paint 19 = .ok (.iload_n 1, 1) := by decide +kernel
theorem dX1_paint_20 : decode cX1_paint 20 = .ok (.iload 4, 2) := by decide +kernel
theorem dX1_paint_22 : decode cX1_paint 22 = .ok (.iload_n 2, 1) := by decide +kernel
theorem dX1_paint_23 : decode cX1_paint 23 = .ok (.imul, 1) := by decide +kernel
theorem dX1_paint_24 : decode cX1_paint 24 = .ok (.iadd, 1) := by decide +kernel
theorem dX1_paint_25 : decode cX1_paint 25 = .ok (.sipush 255, 3) := by decide +kernel
theorem dX1_paint_28 : decode cX1_paint 28 = .ok (.iand, 1) := by decide +kernel
theorem dX1_paint_29 : decode cX1_paint 29 = .ok (.istore 5, 2) := by decide +kernel
theorem dX1_paint_31 : decode cX1_paint 31 = .ok (.aload_n 0, 1) := by decide +kernel
theorem dX1_paint_32 : decode cX1_paint 32 = .ok (.getfield 7, 3) := by decide +kernel
theorem dX1_paint_35 : decode cX1_paint 35 = .ok (.iload 4, 2) := by decide +kernel
theorem dX1_paint_37 : decode cX1_paint 37 = .ok (.iaload, 1) := by decide +kernel
theorem dX1_paint_38 : decode cX1_paint 38 = .ok (.iload 5, 2) := by decide +kernel
theorem dX1_paint_40 : decode cX1_paint 40 = .ok (.if_icmp .eq 9, 3) := by decide +kernel
theorem dX1_paint_43 : decode cX1_paint 43 = .ok (.iload_n 3, 1) := by decide +kernel
theorem dX1_paint_44 : decode cX1_paint 44 = .ok (.iconst 1, 1) := by decide +kernel
theorem dX1_paint_45 : decode cX1_paint 45 = .ok (.iadd, 1) := by decide +kernel
theorem dX1_paint_46 : decode cX1_paint 46 = .ok (.goto 4, 3) := by decide +kernel
theorem dX1_paint_49 : decode cX1_paint 49 = .ok (.iload_n 3, 1) := by decide +kernel
theorem dX1_paint_50 : decode cX1_paint 50 = .ok (.istore_n 3, 1) := by decide +kernel
theorem dX1_paint_51 : decode cX1_paint 51 = .ok (.aload_n 0, 1) := by decide +kernel
theorem dX1_paint_52 : decode cX1_paint 52 = .ok (.getfield 7, 3) := by decide +kernel
theorem dX1_paint_55 : decode cX1_paint 55 = .ok (.iload 4, 2) := by decide +kernel
theorem dX1_paint_57 : decode cX1_paint 57 = .ok (.iload 5, 2) := by decide +kernel
theorem dX1_paint_59 : decode cX1_paint 59 = .ok (.iastore, 1) := by decide +kernel
theorem dX1_paint_60 : decode cX1_paint 60 = .ok (.iinc 4 1, 3) := by decide +kernel
theorem dX1_paint_63 : decode cX1_paint 63 = .ok (.goto (-53), 3) := by decide +kernel
theorem dX1_paint_66 : decode cX1_paint 66 = .ok (.iload_n 3, 1) := by decide +kernel
theorem dX1_paint_67 : decode cX1_paint 67 = .ok (.ireturn, 1) := by decide +kernel
theorem dX1_blacks_0 : decode cX1_blacks 0 = .ok (.iconst 0, 1) := by decide +kernel
theorem dX1_blacks_1 : decode cX1_blacks 1 = .ok (.istore_n 1, 1) := by decide +kernel
theorem dX1_blacks_2 : decode cX1_blacks 2 = .ok (.iconst 0, 1) := by decide +kernel
theorem dX1_blacks_3 : decode cX1_blacks 3 = .ok (.istore_n 2, 1) := by decide +kernel
theorem dX1_blacks_4 : decode cX1_blacks 4 = .ok (.iload_n 2, 1) := by decide +kernel
theorem dX1_blacks_5 : decode cX1_blacks 5 = .ok (.aload_n 0, 1) := by decide +kernel
theorem dX1_blacks_6 : decode cX1_blacks 6 = .ok (.invokevirtual 40, 3) := by decide +kernel
theorem dX1_blacks_9 : decode cX1_blacks 9 = .ok (.if_icmp .ge 26, 3) := by decide +kernel
theorem dX1_blacks_12 : decode cX1_blacks 12 = .ok (.aload_n 0, 1) := by decide +kernel
theorem dX1_blacks_13 : decode cX1_blacks 13 = .ok (.getfield 13, 3) := by decide +kernel
theorem dX1_blacks_16 : decode cX1_blacks 16 = .ok (.iload_n 2, 1) := by decide +kernel
theorem dX1_blacks_17 : decode cX1_blacks 17 = .ok (.baload, 1) := by decide +kernel
theorem dX1_blacks_18 : decode cX1_blacks 18 = .ok (.ifCond .eq 9, 3) := by decide +kernel
theorem dX1_blacks_21 : decode cX1_blacks 21 = .ok (.iload_n 1, 1) := by decide +kernel
theorem dX1_blacks_22 : decode cX1_blacks 22 = .ok (.iconst 1, 1) := by decide +kernel
theorem dX1_blacks_23 : decode cX1_blacks 23 = .ok (.iadd, 1) := by decide +kernel
theorem dX1_blacks_24 : decode cX1_blacks 24 = .ok (.goto 4, 3) := by decide +kernel
theorem dX1_blacks_27 : decode cX1_blacks 27 = .ok (.iload_n 1, 1) := by decide +kernel
theorem dX1_blacks_28 : decode cX1_blacks 28 = .ok (.istore_n 1, 1) := by decide +kernel
theorem dX1_blacks_29 : decode cX1_blacks 29 = .ok (.iinc 2 1, 3) := by decide +kernel
theorem dX1_blacks_32 : decode cX1_blacks 32 = .ok (.goto (-28), 3) := by decide +kernel
theorem dX1_blacks_35 : decode cX1_blacks 35 = .ok (.iload_n 1, 1) := by decide +kernel
theorem dX1_blacks_36 : decode cX1_blacks 36 = .ok (.ireturn, 1) := by decide +kernel
theorem dX1_global_0 : decode cX1_global 0 = .ok (.aload_n 0, 1) := by decide +kernel
theorem dX1_global_1 : decode cX1_global 1 = .ok (.iconst 0, 1) := by decide +kernel
theorem dX1_global_2 : decode cX1_global 2 = .ok (.putfield 33, 3) := by decide +kernel
theorem dX1_global_5 : decode cX1_global 5 = .ok (.aload_n 0, 1) := by decide +kernel
theorem dX1_global_6 : decode cX1_global 6 = .ok (.getfield 7, 3) := by decide +kernel
theorem dX1_global_9 : decode cX1_global 9 = .ok (.iconst 0, 1) := by decide +kernel
theorem dX1_global_10 : decode cX1_global 10 = .ok (.iaload, 1) := by decide +kernel
theorem dX1_global_11 : decode cX1_global 11 = .ok (.iconst 1, 1) := by decide +kernel
theorem dX1_global_12 : decode cX1_global 12 = .ok (.isub, 1) := by decide +kernel
theorem dX1_global_13 : decode cX1_global 13 = .ok (.istore_n 1, 1) := by decide +kernel
theorem dX1_global_14 : decode cX1_global 14 = .ok (.lconst 0, 1) := by decide +kernel
theorem dX1_global_15 : decode cX1_global 15 = .ok (.lstore_n 2, 1) := by decide +kernel
theorem dX1_global_16 : decode cX1_global 16 = .ok (.lconst 0, 1) := by decide +kernel
theorem dX1_global_17 : decode cX1_global 17 = .ok (.lstore 4, 2) := by decide +kernel
theorem dX1_global_19 : decode cX1_global 19 = .ok (.iconst 0, 1) := by decide +kernel
theorem dX1_global_20 : decode cX1_global 20 = .ok (.istore 6, 2) := by decide +kernel
theorem dX1_global_22 : decode cX1_global 22 = .ok (.iload 6, 2) := by decide +kernel
theorem dX1_global_24 : decode cX1_global 24 = .ok (.sipush 255, 3) := by decide +kernel
theorem dX1_global_27 : decode cX1_global 27 = .ok (.if_icmp .ge 198, 3) := by decide +kernel
theorem dX1_global_30 : decode cX1_global 30 = .ok (.lconst 0, 1) := by decide +kernel
theorem dX1_global_31 : decode cX1_global 31 = .ok (.lstore 7, 2) := by decide +kernel
theorem dX1_global_33 : decode cX1_global 33 = .ok (.lconst 0, 1) := by decide +kernel
theorem dX1_global_34 : decode cX1_global 34 = .ok (.lstore 9, 2) := by decide +kernel
theorem dX1_global_36 : decode cX1_global 36 = .ok (.lconst 0, 1) := by decide +kernel
theorem dX1_global_37 : decode cX1_global 37 = .ok (.lstore 11, 2) := by decide +kernel
theorem dX1_global_39 : decode cX1_global 39 = .ok (.iconst 0, 1) := by decide +kernel
theorem dX1_global_40 : decode cX1_global 40 = .ok (.istore 13, 2) := by decide +kernel
theorem dX1_global_42 : decode cX1_global 42 = .ok (.iload 13, 2) := by decide +kernel
theorem dX1_global_44 : decode cX1_global 44 = .ok (.aload_n 0, 1) := by decide +kernel
theorem dX1_global_45 : decode cX1_global 45 = .ok (.invokevirtual 40, 3) := by decide +kernel
theorem dX1_global_48 : decode cX1_global 48 = .ok (.if_icmp .ge 92, 3) := by decide +kernel
theorem dX1_global_51 : decode cX1_global 51 = .ok (.aload_n 0, 1) := by decide +kernel
theorem dX1_global_52 : decode cX1_global 52 = .ok (.getfield 7, 3) := by decide +kernel
theorem dX1_global_55 : decode cX1_global 55 = .ok (.iload 13, 2) := by decide +kernel
theorem dX1_global_57 : decode cX1_global 57 = .ok (.iaload, 1) := by decide +kernel
theorem dX1_global_58 : decode cX1_global 58 = .ok (.iload 6, 2) := by decide +kernel
theorem dX1_global_60 : decode cX1_global 60 = .ok (.if_icmp .gt 10, 3) := by decide +kernel
theorem dX1_global_63 : decode cX1_global 63 = .ok (.lload 7, 2) := by decide +kernel
theorem dX1_global_65 : decode cX1_global 65 = .ok (.lconst 1, 1) := by decide +kernel
theorem dX1_global_66 : decode cX1_global 66 = .ok (.ladd, 1) := by decide +kernel
theorem dX1_global_67 : decode cX1_global 67 = .ok (.goto 5, 3) := by decide +kernel
theorem dX1_global_70 : decode cX1_global 70 = .ok (.lload 7, 2) := by decide +kernel
theorem dX1_global_72 : decode cX1_global 72 = .ok (.lstore 7, 2) := by decide +kernel
theorem dX1_global_74 : decode cX1_global 74 = .ok (.aload_n 0, 1) := by decide +kernel
theorem dX1_global_75 : decode cX1_global 75 = .ok (.getfield 7, 3) := by decide +kernel
theorem dX1_global_78 : decode cX1_global 78 = .ok (.iload 13, 2) := by decide +kernel
theorem dX1_global_80 : decode cX1_global 80 = .ok (.iaload, 1) := by decide +kernel
theorem dX1_global_81 : decode cX1_global 81 = .ok (.iload 6, 2) := by decide +kernel
theorem dX1_global_83 : decode cX1_global 83 = .ok (.if_icmp .gt 17, 3) := by decide +kernel
theorem dX1_global_86 : decode cX1_global 86 = .ok (.lload 9, 2) := by decide +kernel
theorem dX1_global_88 : decode cX1_global 88 = .ok (.aload_n 0, 1) := by decide +kernel
theorem dX1_global_89 : decode cX1_global 89 = .ok (.getfield 7, 3) := by decide +kernel
theorem dX1_global_92 : decode cX1_global 92 = .ok (.iload 13, 2) := by decide +kernel
theorem dX1_global_94 : decode cX1_global 94 = .ok (.iaload, 1) := by decide +kernel
theorem dX1_global_95 : decode cX1_global 95 = .ok (.i2l, 1) := by decide +kernel
theorem dX1_global_96 : decode cX1_global 96 = .ok (.ladd, 1) := by decide +kernel
theorem dX1_global_97 : decode cX1_global 97 = .ok (.goto 5, 3) := by decide +kernel
theorem dX1_global_100 : decode cX1_global 100 = .ok (.lload 9, 2) := by decide +kernel
theorem dX1_global_102 : decode cX1_global 102 = .ok (.lstore 9, 2) := by decide +kernel
theorem dX1_global_104 : decode cX1_global 104 = .ok (.aload_n 0, 1) := by decide +kernel
theorem dX1_global_105 : decode cX1_global 105 = .ok (.getfield 7, 3) := by decide +kernel
theorem dX1_global_108 : decode cX1_global 108 = .ok (.iload 13, 2) := by decide +kernel
theorem dX1_global_110 : decode cX1_global 110 = .ok (.iaload, 1) := by decide +kernel
theorem dX1_global_111 : decode cX1_global 111 = .ok (.iload 6, 2) := by decide +kernel
theorem dX1_global_113 : decode cX1_global 113 = .ok (.if_icmp .gt 8, 3) := by decide +kernel
theorem dX1_global_116 : decode cX1_global 116 = .ok (.lload 11, 2) := by decide +kernel
theorem dX1_global_118 : decode cX1_global 118 = .ok (.goto 14, 3) := by decide +kernel
theorem dX1_global_121 : decode cX1_global 121 = .ok (.lload 11, 2) := by decide +kernel
theorem dX1_global_123 : decode cX1_global 123 = .ok (.aload_n 0, 1) := by decide +kernel
theorem dX1_global_124 : decode cX1_global 124 = .ok (.getfield 7, 3) := by decide +kernel
theorem dX1_global_127 : decode cX1_global 127 = .ok (.iload 13, 2) := by decide +kernel
theorem dX1_global_129 : decode cX1_global 129 = .ok (.iaload, 1) := by decide +kernel
theorem dX1_global_130 : decode cX1_global 130 = .ok (.i2l, 1) := by decide +kernel
theorem dX1_global_131 : decode cX1_global 131 = .ok (.ladd, 1) := by decide +kernel
theorem dX1_global_132 : decode cX1_global 132 = .ok (.lstore 11, 2) := by decide +kernel
theorem dX1_global_134 : decode cX1_global 134 = .ok (.iinc 13 1, 3) := by decide +kernel
theorem dX1_global_137 : decode cX1_global 137 = .ok (.goto (-95), 3) := by decide +kernel
theorem dX1_global_140 : decode cX1_global 140 = .ok (.aload_n 0, 1) := by decide +kernel
theorem dX1_global_141 : decode cX1_global 141 = .ok (.invokevirtual 40, 3) := by decide +kernel
theorem dX1_global_144 : decode cX1_global 144 = .ok (.i2l, 1) := by decide +kernel
theorem dX1_global_145 : decode cX1_global 145 = .ok (.lload 7, 2) := by decide +kernel
theorem dX1_global_147 : decode cX1_global 147 = .ok (.lsub, 1) := by decide +kernel
theorem dX1_global_148 : decode cX1_global 148 = .ok (.lstore 13, 2) := by decide +kernel
theorem dX1_global_150 : decode cX1_global 150 = .ok (.lload 9, 2) := by decide +kernel
theorem dX1_global_152 : decode cX1_global 152 = .ok (.lload 13, 2) := by decide +kernel
theorem dX1_global_154 : decode cX1_global 154 = .ok (.lmul, 1) := by decide +kernel
theorem dX1_global_155 : decode cX1_global 155 = .ok (.lload 11, 2) := by decide +kernel
theorem dX1_global_157 : decode cX1_global 157 = .ok (.lload 7, 2) := by decide +kernel
theorem dX1_global_159 : decode cX1_global 159 = .ok (.lmul, 1) := by decide +kernel
theorem dX1_global_160 : decode cX1_global 160 = .ok (.lsub, 1) := by decide +kernel
theorem dX1_global_161 : decode cX1_global 161 = .ok (.lstore 15, 2) := by decide +kernel
theorem dX1_global_163 : decode cX1_global 163 = .ok (.lload 7, 2) := by decide +kernel
theorem dX1_global_165 : decode cX1_global 165 = .ok (.lconst 0, 1) := by decide +kernel
theorem dX1_global_166 : decode cX1_global 166 = .ok (.lcmp, 1) := by decide +kernel
theorem dX1_global_167 : decode cX1_global 167 = .ok (.ifCond .le 52, 3) := by decide +kernel
theorem dX1_global_170 : decode cX1_global 170 = .ok (.lload 13, 2) := by decide +kernel
theorem dX1_global_172 : decode cX1_global 172 = .ok (.lconst 0, 1) := by decide +kernel
theorem dX1_global_173 : decode cX1_global 173 = .ok (.lcmp, 1) := by decide +kernel
theorem dX1_global_174 : decode cX1_global 174 = .ok (.ifCond .le 45, 3) := by decide +kernel
theorem dX1_global_177 : decode cX1_global 177 = .ok (.lload 4, 2) := by decide +kernel
theorem dX1_global_179 : decode cX1_global 179 = .ok (.lconst 0, 1) := by decide +kernel
theorem dX1_global_180 : decode cX1_global 180 = .ok (.lcmp, 1) := by decide +kernel
theorem dX1_global_181 : decode cX1_global 181 = .ok (.ifCond .eq 22, 3) := by decide +kernel
theorem dX1_global_184 : decode cX1_global 184 = .ok (.lload 15, 2) := by decide +kernel
theorem dX1_global_186 : decode cX1_global 186 = .ok (.lload 15, 2) := by decide +kernel
theorem dX1_global_188 : decode cX1_global 188 = .ok (.lmul, 1) := by decide +kernel
theorem dX1_global_189 : decode cX1_global 189 = .ok (.lload 4, 2) := by decide +kernel
theorem dX1_global_191 : decode cX1_global 191 = .ok (.lmul, 1) := by decide +kernel
theorem dX1_global_192 : decode cX1_global 192 = .ok (.lload_n 2, 1) := by decide +kernel
theorem dX1_global_193 : decode cX1_global 193 = .ok (.lload 7, 2) := by decide +kernel
theorem dX1_global_195 : decode cX1_global 195 = .ok (.lload 13, 2) := by decide +kernel
theorem dX1_global_197 : decode cX1_global 197 = .ok (.lmul, 1) := by decide +kernel
theorem dX1_global_198 : decode cX1_global 198 = .ok (.lmul, 1) := by decide +kernel
theorem dX1_global_199 : decode cX1_global 199 = .ok (.lcmp, 1) := by decide +kernel
theorem dX1_global_200 : decode cX1_global 200 = .ok (.ifCond .le 19, 3) := by decide +kernel
theorem dX1_global_203 : decode cX1_global 203 = .ok (.iload 6, 2) := by decide +kernel
theorem dX1_global_205 : decode cX1_global 205 = .ok (.istore_n 1, 1) := by decide +kernel
theorem dX1_global_206 : decode cX1_global 206 = .ok (.lload 15, 2) := by decide +kernel
theorem dX1_global_208 : decode cX1_global 208 = .ok (.lload 15, 2) := by decide +kernel
theorem dX1_global_210 : decode cX1_global 210 = .ok (.lmul, 1) := by decide +kernel
theorem dX1_global_211 : decode cX1_global 211 = .ok (.lstore_n 2, 1) := by decide +kernel
theorem dX1_global_212 : decode cX1_global 212 = .ok (.lload 7, 2) := by decide +kernel
theorem dX1_global_214 : decode cX1_global 214 = .ok (.lload 13, 2) := by decide +kernel
theorem dX1_global_216 : decode cX1_global 216 = .ok (.lmul, 1) := by decide +kernel
theorem dX1_global_217 : decode cX1_global 217 = .ok (.lstore 4, 2) := by decide +kernel
theorem dX1_global_219 : decode cX1_global 219 = .ok (.iinc 6 1, 3) := by decide +kernel
theorem dX1_global_222 : decode cX1_global 222 = .ok (.goto (-200), 3) := by decide +kernel
theorem dX1_global_225 : decode cX1_global 225 = .ok (.iconst 0, 1) := by decide +kernel
theorem dX1_global_226 : decode cX1_global 226 = .ok (.istore 6, 2) := by decide +kernel
theorem dX1_global_228 : decode cX1_global 228 = .ok (.iload 6, 2) := by decide +kernel
theorem dX1_global_230 : decode cX1_global 230 = .ok (.aload_n 0, 1) := by decide +kernel
theorem dX1_global_231 : decode cX1_global 231 = .ok (.invokevirtual 40, 3) := by decide +kernel
theorem dX1_global_234 : decode cX1_global 234 = .ok (.if_icmp .ge 32, 3) := by decide +kernel
theorem dX1_global_237 : decode cX1_global 237 = .ok (.aload_n 0, 1) := by decide +kernel
theorem dX1_global_238 : decode cX1_global 238 = .ok (.getfield 13, 3) := by decide +kernel
theorem dX1_global_241 : decode cX1_global 241 = .ok (.iload 6, 2) := by decide +kernel
theorem dX1_global_243 : decode cX1_global 243 = .ok (.aload_n 0, 1) := by decide +kernel
theorem dX1_global_244 : decode cX1_global 244 = .ok (.getfield 7, 3) := by decide +kernel
theorem dX1_global_247 : decode cX1_global 247 = .ok (.iload 6, 2) := by decide +kernel
theorem dX1_global_249 : decode cX1_global 249 = .ok (.iaload, 1) := by decide +kernel
theorem dX1_global_250 : decode cX1_global 250 = .ok (.iload_n 1, 1) := by decide +kernel
theorem dX1_global_251 : decode cX1_global 251 = .ok (.if_icmp .gt 7, 3) := by decide +kernel
theorem dX1_global_254 : decode cX1_global 254 = .ok (.iconst 1, 1) := by decide +kernel
theorem dX1_global_255 : decode cX1_global 255 = .ok (.goto 4, 3) := by decide +kernel
theorem dX1_global_258 : decode cX1_global 258 = .ok (.iconst 0, 1) := by decide +kernel
theorem dX1_global_259 : decode cX1_global 259 = .ok (.bastore, 1) := by decide +kernel
theorem dX1_global_260 : decode cX1_global 260 = .ok (.iinc 6 1, 3) := by decide +kernel
theorem dX1_global_263 : decode cX1_global 263 = .ok (.goto (-35), 3) := by decide +kernel
theorem dX1_global_266 : decode cX1_global 266 = .ok (.iload_n 1, 1) := by decide +kernel
theorem dX1_global_267 : decode cX1_global 267 = .ok (.ireturn, 1) := by decide +kernel
theorem dX1_isDark_0 : decode cX1_isDark 0 = .ok (.lconst 0, 1) := by decide +kernel
theorem dX1_isDark_1 : decode cX1_isDark 1 = .ok (.lstore 5, 2) := by decide +kernel
theorem dX1_isDark_3 : decode cX1_isDark 3 = .ok (.lconst 0, 1) := by decide +kernel
theorem dX1_isDark_4 : decode cX1_isDark 4 = .ok (.lstore 7, 2) := by decide +kernel
theorem dX1_isDark_6 : decode cX1_isDark 6 = .ok (.lconst 0, 1) := by decide +kernel
theorem dX1_isDark_7 : decode cX1_isDark 7 = .ok (.lstore 9, 2) := by decide +kernel
theorem dX1_isDark_9 : decode cX1_isDark 9 = .ok (.iload_n 2, 1) := by decide +kernel
theorem dX1_isDark_10 : decode cX1_isDark 10 = .ok (.iload_n 3, 1) := by decide +kernel
theorem dX1_isDark_11 : decode cX1_isDark 11 = .ok (.isub, 1) := by decide +kernel
theorem dX1_isDark_12 : decode cX1_isDark 12 = .ok (.istore 11, 2) := by decide +kernel
theorem dX1_isDark_14 : decode cX1_isDark 14 = .ok (.iload 11, 2) := by decide +kernel
theorem dX1_isDark_16 : decode cX1_isDark 16 = .ok (.iload_n 2, 1) := by decide +kernel
theorem dX1_isDark_17 : decode cX1_isDark 17 = .ok (.iload_n 3, 1) := by decide +kernel
theorem dX1_isDark_18 : decode cX1_isDark 18 = .ok (.iadd, 1) := by decide +kernel
theorem dX1_isDark_19 : decode cX1_isDark 19 = .ok (.if_icmp .gt 80, 3) := by decide +kernel
theorem dX1_isDark_22 : decode cX1_isDark 22 = .ok (.iload_n 1, 1) := by decide +kernel
theorem dX1_isDark_23 : decode cX1_isDark 23 = .ok (.iload_n 3, 1) := by decide +kernel
theorem dX1_isDark_24 : decode cX1_isDark 24 = .ok (.isub, 1) := by decide +kernel
theorem dX1_isDark_25 : decode cX1_isDark 25 = .ok (.istore 12, 2) := by decide +kernel
theorem dX1_isDark_27 : decode cX1_isDark 27 = .ok (.iload 12, 2) := by decide +kernel
theorem dX1_isDark_29 : decode cX1_isDark 29 = .ok (.iload_n 1, 1) := by decide +kernel
theorem dX1_isDark_30 : decode cX1_isDark 30 = .ok (.iload_n 3, 1) := by decide +kernel
theorem dX1_isDark_31 : decode cX1_isDark 31 = .ok (.iadd, 1) := by decide +kernel
theorem dX1_isDark_32 : decode cX1_isDark 32 = .ok (.if_icmp .gt 61, 3) := by decide +kernel
theorem dX1_isDark_35 : decode cX1_isDark 35 = .ok (.aload_n 0, 1) := by decide +kernel
theorem dX1_isDark_36 : decode cX1_isDark 36 = .ok (.iload 12, 2) := by decide +kernel
theorem dX1_isDark_38 : decode cX1_isDark 38 = .ok (.iload 11, 2) := by decide +kernel
theorem dX1_isDark_40 : decode cX1_isDark 40 = .ok (.invokevirtual 36, 3) := by decide +kernel
theorem dX1_isDark_43 : decode cX1_isDark 43 = .ok (.ifCond .eq 44, 3) := by decide +kernel
theorem dX1_isDark_46 : decode cX1_isDark 46 = .ok (.aload_n 0, 1) := by decide +kernel
theorem dX1_isDark_47 : decode cX1_isDark 47 = .ok (.getfield 7, 3) := by decide +kernel
theorem dX1_isDark_50 : decode cX1_isDark 50 = .ok (.aload_n 0, 1) := by decide +kernel
theorem dX1_isDark_51 : decode cX1_isDark 51 = .ok (.getfield 26, 3) := by decide +kernel
theorem dX1_isDark_54 : decode cX1_isDark 54 = .ok (.iload 11, 2) := by decide +kernel
theorem dX1_isDark_56 : decode cX1_isDark 56 = .ok (.imul, 1) := by decide +kernel
theorem dX1_isDark_57 : decode cX1_isDark 57 = .ok (.iload 12, 2) := by decide +kernel
theorem dX1_isDark_59 : decode cX1_isDark 59 = .ok (.iadd, 1) := by decide +kernel
theorem dX1_isDark_60 : decode cX1_isDark 60 = .ok (.iaload, 1) := by decide +kernel
theorem dX1_isDark_61 : decode cX1_isDark 61 = .ok (.i2l, 1) := by decide +kernel
theorem dX1_isDark_62 : decode cX1_isDark 62 = .ok (.lstore 13, 2) := by decide +kernel
theorem dX1_isDark_64 : decode cX1_isDark 64 = .ok (.lload 5, 2) := by decide +kernel
theorem dX1_isDark_66 : decode cX1_isDark 66 = .ok (.lconst 1, 1) := by decide +kernel
theorem dX1_isDark_67 : decode cX1_isDark 67 = .ok (.ladd, 1) := by decide +kernel
theorem dX1_isDark_68 : decode cX1_isDark 68 = .ok (.lstore 5, 2) := by decide +kernel
theorem dX1_isDark_70 : decode cX1_isDark 70 = .ok (.lload 7, 2) := by decide +kernel
theorem dX1_isDark_72 : decode cX1_isDark 72 = .ok (.lload 13, 2) := by decide +kernel
theorem dX1_isDark_74 : decode cX1_isDark 74 = .ok (.ladd, 1) := by decide +kernel
theorem dX1_isDark_75 : decode cX1_isDark 75 = .ok (.lstore 7, 2) := by decide +kernel
theorem dX1_isDark_77 : decode cX1_isDark 77 = .ok (.lload 9, 2) := by decide +kernel
theorem dX1_isDark_79 : decode cX1_isDark 79 = .ok (.lload 13, 2) := by decide +kernel
theorem dX1_isDark_81 : decode cX1_isDark 81 = .ok (.lload 13, 2) := by decide +kernel
theorem dX1_isDark_83 : decode cX1_isDark 83 = .ok (.lmul, 1) := by decide +kernel
theorem dX1_isDark_84 : decode cX1_isDark 84 = .ok (.ladd, 1) := by decide +kernel
theorem dX1_isDark_85 : decode cX1_isDark 85 = .ok (.lstore 9, 2) := by decide +kernel
theorem dX1_isDark_87 : decode cX1_isDark 87 = .ok (.iinc 12 1, 3) := by decide +kernel
theorem dX1_isDark_90 : decode cX1_isDark 90 = .ok (.goto (-63), 3) := by decide +kernel
theorem dX1_isDark_93 : decode cX1_isDark 93 = .ok (.iinc 11 1, 3) := by decide +kernel
theorem dX1_isDark_96 : decode cX1_isDark 96 = .ok (.goto (-82), 3) := by decide +kernel
theorem dX1_isDark_99 : decode cX1_isDark 99 = .ok (.aload_n 0, 1) := by decide +kernel
theorem dX1_isDark_100 : decode cX1_isDark 100 = .ok (.getfield 7, 3) := by decide +kernel
theorem dX1_isDark_103 : decode cX1_isDark 103 = .ok (.aload_n 0, 1) := by decide +kernel
theorem dX1_isDark_104 : decode cX1_isDark 104 = .ok (.getfield 26, 3) := by decide +kernel
theorem dX1_isDark_107 : decode cX1_isDark 107 = .ok (.iload_n 2, 1) := by decide +kernel
theorem dX1_isDark_108 : decode cX1_isDark 108 = .ok (.imul, 1) := by decide +kernel
theorem dX1_isDark_109 : decode cX1_isDark 109 = .ok (.iload_n 1, 1) := by decide +kernel
theorem dX1_isDark_110 : decode cX1_isDark 110 = .ok (.iadd, 1) := by decide +kernel
theorem dX1_isDark_111 : decode cX1_isDark 111 = .ok (.iaload, 1) := by decide +kernel
theorem dX1_isDark_112 : decode cX1_isDark 112 = .ok (.i2l, 1) := by decide +kernel
theorem dX1_isDark_113 : decode cX1_isDark 113 = .ok (.lstore 11, 2) := by decide +kernel
theorem dX1_isDark_115 : decode cX1_isDark 115 = .ok (.lload 5, 2) := by decide +kernel
theorem dX1_isDark_117 : decode cX1_isDark 117 = .ok (.lload 9, 2) := by decide +kernel
theorem dX1_isDark_119 : decode cX1_isDark 119 = .ok (.lmul, 1) := by decide +kernel
theorem dX1_isDark_120 : decode cX1_isDark 120 = .ok (.lload 7, 2) := by decide +kernel
theorem dX1_isDark_122 : decode cX1_isDark 122 = .ok (.lload 7, 2) := by decide +kernel
theorem dX1_isDark_124 : decode cX1_isDark 124 = .ok (.lmul, 1) := by decide +kernel
theorem dX1_isDark_125 : decode cX1_isDark 125 = .ok (.lsub, 1) := by decide +kernel
theorem dX1_isDark_126 : decode cX1_isDark 126 = .ok (.lstore 13, 2) := by decide +kernel
theorem dX1_isDark_128 : decode cX1_isDark 128 = .ok (.lload 7, 2) := by decide +kernel
theorem dX1_isDark_130 : decode cX1_isDark 130 = .ok (.lload 5, 2) := by decide +kernel
theorem dX1_isDark_132 : decode cX1_isDark 132 = .ok (.lload 11, 2) := by decide +kernel
theorem dX1_isDark_134 : decode cX1_isDark 134 = .ok (.lmul, 1) := by decide +kernel
theorem dX1_isDark_135 : decode cX1_isDark 135 = .ok (.lsub, 1) := by decide +kernel
theorem dX1_isDark_136 : decode cX1_isDark 136 = .ok (.lstore 15, 2) := by decide +kernel
theorem dX1_isDark_138 : decode cX1_isDark 138 = .ok (.lload 13, 2) := by decide +kernel
theorem dX1_isDark_140 : decode cX1_isDark 140 = .ok (.lconst 0, 1) := by decide +kernel
theorem dX1_isDark_141 : decode cX1_isDark 141 = .ok (.lcmp, 1) := by decide +kernel
theorem dX1_isDark_142 : decode cX1_isDark 142 = .ok (.ifCond .ne 20, 3) := by decide +kernel
theorem dX1_isDark_145 : decode cX1_isDark 145 = .ok (.lload 11, 2) := by decide +kernel
theorem dX1_isDark_147 : decode cX1_isDark 147 = .ok (.ldc2_w 44, 3) := by decide +kernel
theorem dX1_isDark_150 : decode cX1_isDark 150 = .ok (.lcmp, 1) := by decide +kernel
theorem dX1_isDark_151 : decode cX1_isDark 151 = .ok (.ifCond .ge 7, 3) := by decide +kernel
theorem dX1_isDark_154 : decode cX1_isDark 154 = .ok (.iconst 1, 1) := by decide +kernel
theorem dX1_isDark_155 : decode cX1_isDark 155 = .ok (.goto 42, 3) := by decide +kernel
theorem dX1_isDark_158 : decode cX1_isDark 158 = .ok (.iconst 0, 1) := by decide +kernel
theorem dX1_isDark_159 : decode cX1_isDark 159 = .ok (.goto 38, 3) := by decide +kernel
theorem dX1_isDark_162 : decode cX1_isDark 162 = .ok (.lload 15, 2) := by decide +kernel
theorem dX1_isDark_164 : decode cX1_isDark 164 = .ok (.lconst 0, 1) := by decide +kernel
theorem dX1_isDark_165 : decode cX1_isDark 165 = .ok (.lcmp, 1) := by decide +kernel
theorem dX1_isDark_166 : decode cX1_isDark 166 = .ok (.ifCond .lt 30, 3) := by decide +kernel
theorem dX1_isDark_169 : decode cX1_isDark 169 = .ok (.ldc2_w 46, 3) := by decide +kernel
theorem dX1_isDark_172 : decode cX1_isDark 172 = .ok (.lload 15, 2) := by decide +kernel
theorem dX1_isDark_174 : decode cX1_isDark 174 = .ok (.lmul, 1) := by decide +kernel
theorem dX1_isDark_175 : decode cX1_isDark 175 = .ok (.lload 15, 2) := by decide +kernel
theorem dX1_isDark_177 : decode cX1_isDark 177 = .ok (.lmul, 1) := by decide +kernel
theorem dX1_isDark_178 : decode cX1_isDark 178 = .ok (.iload 4, 2) := by decide +kernel
theorem dX1_isDark_180 : decode cX1_isDark 180 = .ok (.i2l, 1) := by decide +kernel
theorem dX1_isDark_181 : decode cX1_isDark 181 = .ok (.iload 4, 2) := by decide +kernel
theorem dX1_isDark_183 : decode cX1_isDark 183 = .ok (.i2l, 1) := by decide +kernel
theorem dX1_isDark_184 : decode cX1_isDark 184 = .ok (.lmul, 1) := by decide +kernel
theorem dX1_isDark_185 : decode cX1_isDark 185 = .ok (.lload 13, 2) := by decide +kernel
theorem dX1_isDark_187 : decode cX1_isDark 187 = .ok (.lmul, 1) := by decide +kernel
theorem dX1_isDark_188 : decode cX1_isDark 188 = .ok (.lcmp, 1) := by decide +kernel
theorem dX1_isDark_189 : decode cX1_isDark 189 = .ok (.ifCond .lt 7, 3) := by decide +kernel
theorem dX1_isDark_192 : decode cX1_isDark 192 = .ok (.iconst 1, 1) := by decide +kernel
theorem dX1_isDark_193 : decode cX1_isDark 193 = .ok (.goto 4, 3) := by decide +kernel
theorem dX1_isDark_196 : decode cX1_isDark 196 = .ok (.iconst 0, 1) := by decide +kernel
theorem dX1_isDark_197 : decode cX1_isDark 197 = .ok (.ireturn, 1) := by decide +kernel
theorem dX1_local_0 : decode cX1_local 0 = .ok (.iload_n 1, 1) := by decide +kernel
theorem dX1_local_1 : decode cX1_local 1 = .ok (.iconst 1, 1) := by decide +kernel
theorem dX1_local_2 : decode cX1_local 2 = .ok (.if_icmp .lt 30, 3) := by decide +kernel
theorem dX1_local_5 : decode cX1_local 5 = .ok (.iload_n 1, 1) := by decide +kernel
theorem dX1_local_6 : decode cX1_local 6 = .ok (.bipush 31, 2) := by decide +kernel
theorem dX1_local_8 : decode cX1_local 8 = .ok (.if_icmp .gt 24, 3) := by decide +kernel
theorem dX1_local_11 : decode cX1_local 11 = .ok (.iload_n 1, 1) := by decide +kernel
theorem dX1_local_12 : decode cX1_local 12 = .ok (.iconst 2, 1) := by decide +kernel
theorem dX1_local_13 : decode cX1_local 13 = .ok (.irem, 1) := by decide +kernel
theorem dX1_local_14 : decode cX1_local 14 = .ok (.iconst 1, 1) := by decide +kernel
theorem dX1_local_15 : decode cX1_local 15 = .ok (.if_icmp .ne 17, 3) := by decide +kernel
theorem dX1_local_18 : decode cX1_local 18 = .ok (.iload_n 2, 1) := by decide +kernel
theorem dX1_local_19 : decode cX1_local 19 = .ok (.ifCond .lt 13, 3) := by decide +kernel
theorem dX1_local_22 : decode cX1_local 22 = .ok (.iload_n 2, 1) := by decide +kernel
theorem dX1_local_23 : decode cX1_local 23 = .ok (.bipush 64, 2) := by decide +kernel
theorem dX1_local_25 : decode cX1_local 25 = .ok (.if_icmp .gt 7, 3) := by decide +kernel
theorem dX1_local_28 : decode cX1_local 28 = .ok (.iconst 1, 1) := by decide +kernel
theorem dX1_local_29 : decode cX1_local 29 = .ok (.goto 4, 3) := by decide +kernel
theorem dX1_local_32 : decode cX1_local 32 = .ok (.iconst 0, 1) := by decide +kernel
theorem dX1_local_33 : decode cX1_local 33 = .ok (.istore_n 3, 1) := by decide +kernel
theorem dX1_local_34 : decode cX1_local 34 = .ok (.aload_n 0, 1) := by decide +kernel
theorem dX1_local_35 : decode cX1_local 35 = .ok (.iload_n 3, 1) := by decide +kernel
theorem dX1_local_36 : decode cX1_local 36 = .ok (.ifCond .eq 7, 3) := by decide +kernel
theorem dX1_local_39 : decode cX1_local 39 = .ok (.iconst 0, 1) := by decide +kernel
theorem dX1_local_40 : decode cX1_local 40 = .ok (.goto 4, 3) := by decide +kernel
theorem dX1_local_43 : decode cX1_local 43 = .ok (.iconst 1, 1) := by decide +kernel
theorem dX1_local_44 : decode cX1_local 44 = .ok (.putfield 33, 3) := by decide +kernel
theorem dX1_local_47 : decode cX1_local 47 = .ok (.aload_n 0, 1) := by decide +kernel
theorem dX1_local_48 : decode cX1_local 48 = .ok (.getfield 33, 3) := by decide +kernel
theorem dX1_local_51 : decode cX1_local 51 = .ok (.ifCond .le 5, 3) := by decide +kernel
theorem dX1_local_54 : decode cX1_local 54 = .ok (.iconst 0, 1) := by decide +kernel
theorem dX1_local_55 : decode cX1_local 55 = .ok (.ireturn, 1) := by decide +kernel
theorem dX1_local_56 : decode cX1_local 56 = .ok (.iconst 0, 1) := by decide +kernel
theorem dX1_local_57 : decode cX1_local 57 = .ok (.istore 4, 2) := by decide +kernel
theorem dX1_local_59 : decode cX1_local 59 = .ok (.iload 4, 2) := by decide +kernel
theorem dX1_local_61 : decode cX1_local 61 = .ok (.aload_n 0, 1) := by decide +kernel
theorem dX1_local_62 : decode cX1_local 62 = .ok (.invokevirtual 40, 3) := by decide +kernel
theorem dX1_local_65 : decode cX1_local 65 = .ok (.if_icmp .ge 40, 3) := by decide +kernel
theorem dX1_local_68 : decode cX1_local 68 = .ok (.aload_n 0, 1) := by decide +kernel
theorem dX1_local_69 : decode cX1_local 69 = .ok (.getfield 13, 3) := by decide +kernel
theorem dX1_local_72 : decode cX1_local 72 = .ok (.iload 4, 2) := by decide +kernel
theorem dX1_local_74 : decode cX1_local 74 = .ok (.aload_n 0, 1) := by decide +kernel
theorem dX1_local_75 : decode cX1_local 75 = .ok (.iload 4, 2) := by decide +kernel
theorem dX1_local_77 : decode cX1_local 77 = .ok (.aload_n 0, 1) := by decide +kernel
theorem dX1_local_78 : decode cX1_local 78 = .ok (.getfield 26, 3) := by decide +kernel
theorem dX1_local_81 : decode cX1_local 81 = .ok (.irem, 1) := by decide +kernel
theorem dX1_local_82 : decode cX1_local 82 = .ok (.iload 4, 2) := by decide +kernel
theorem dX1_local_84 : decode cX1_local 84 = .ok (.aload_n 0, 1) := by decide +kernel
theorem dX1_local_85 : decode cX1_local 85 = .ok (.getfield 26, 3) := by decide +kernel
theorem dX1_local_88 : decode cX1_local 88 = .ok (.idiv, 1) := by decide +kernel
theorem dX1_local_89 : decode cX1_local 89 = .ok (.iload_n 1, 1) := by decide +kernel
theorem dX1_local_90 : decode cX1_local 90 = .ok (.iconst 1, 1) := by decide +kernel
theorem dX1_local_91 : decode cX1_local 91 = .ok (.isub, 1) := by decide +kernel
theorem dX1_local_92 : decode cX1_local 92 = .ok (.iconst 2, 1) := by decide +kernel
theorem dX1_local_93 : decode cX1_local 93 = .ok (.idiv, 1) := by decide +kernel
theorem dX1_local_94 : decode cX1_local 94 = .ok (.iload_n 2, 1) := by decide +kernel
theorem dX1_local_95 : decode cX1_local 95 = .ok (.invokevirtual 48, 3) := by decide +kernel
theorem dX1_local_98 : decode cX1_local 98 = .ok (.bastore, 1) := by decide +kernel
theorem dX1_local_99 : decode cX1_local 99 = .ok (.iinc 4 1, 3) := by decide +kernel
theorem dX1_local_102 : decode cX1_local 102 = .ok (.goto (-43), 3) := by decide +kernel
theorem dX1_local_105 : decode cX1_local 105 = .ok (.aload_n 0, 1) := by decide +kernel
theorem dX1_local_106 : decode cX1_local 106 = .ok (.invokevirtual 52, 3) := by decide +kernel
theorem dX1_local_109 : decode cX1_local 109 = .ok (.ireturn, 1) := by decide +kernel
theorem dX1_pass_0 : decode cX1_pass 0 = .ok (.aload_n 0, 1) := by decide +kernel
theorem dX1_pass_1 : decode cX1_pass 1 = .ok (.iload_n 1, 1) := by decide +kernel
theorem dX1_pass_2 : decode cX1_pass 2 = .ok (.iload_n 2, 1) := by decide +kernel
theorem dX1_pass_3 : decode cX1_pass 3 = .ok (.invokevirtual 36, 3) := by decide +kernel
theorem dX1_pass_6 : decode cX1_pass 6 = .ok (.ifCond .eq 34, 3) := by decide +kernel
theorem dX1_pass_9 : decode cX1_pass 9 = .ok (.aload_n 0, 1) := by decide +kernel
theorem dX1_pass_10 : decode cX1_pass 10 = .ok (.getfield 20, 3) := by decide +kernel
theorem dX1_pass_13 : decode cX1_pass 13 = .ok (.aload_n 0, 1) := by decide +kernel
theorem dX1_pass_14 : decode cX1_pass 14 = .ok (.getfield 26, 3) := by decide +kernel
theorem dX1_pass_17 : decode cX1_pass 17 = .ok (.iload_n 2, 1) := by decide +kernel
theorem dX1_pass_18 : decode cX1_pass 18 = .ok (.imul, 1) := by decide +kernel
theorem dX1_pass_19 : decode cX1_pass 19 = .ok (.iload_n 1, 1) := by decide +kernel
theorem dX1_pass_20 : decode cX1_pass 20 = .ok (.iadd, 1) := by decide +kernel
theorem dX1_pass_21 : decode cX1_pass 21 = .ok (.aload_n 0, 1) := by decide +kernel
theorem dX1_pass_22 : decode cX1_pass 22 = .ok (.getfield 20, 3) := by decide +kernel
theorem dX1_pass_25 : decode cX1_pass 25 = .ok (.aload_n 0, 1) := by decide +kernel
theorem dX1_pass_26 : decode cX1_pass 26 = .ok (.getfield 26, 3) := by decide +kernel
theorem dX1_pass_29 : decode cX1_pass 29 = .ok (.iload_n 2, 1) := by decide +kernel
theorem dX1_pass_30 : decode cX1_pass 30 = .ok (.imul, 1) := by decide +kernel
theorem dX1_pass_31 : decode cX1_pass 31 = .ok (.iload_n 1, 1) := by decide +kernel
theorem dX1_pass_32 : decode cX1_pass 32 = .ok (.iadd, 1) := by decide +kernel
theorem dX1_pass_33 : decode cX1_pass 33 = .ok (.iaload, 1) := by decide +kernel
theorem dX1_pass_34 : decode cX1_pass 34 = .ok (.iload_n 3, 1) := by decide +kernel
theorem dX1_pass_35 : decode cX1_pass 35 = .ok (.iadd, 1) := by decide +kernel
theorem dX1_pass_36 : decode cX1_pass 36 = .ok (.iastore, 1) := by decide +kernel
theorem dX1_pass_37 : decode cX1_pass 37 = .ok (.goto 14, 3) := by decide +kernel
theorem dX1_pass_40 : decode cX1_pass 40 = .ok (.aload_n 0, 1) := by decide +kernel
theorem dX1_pass_41 : decode cX1_pass 41 = .ok (.aload_n 0, 1) := by decide +kernel
theorem dX1_pass_42 : decode cX1_pass 42 = .ok (.getfield 55, 3) := by decide +kernel
theorem dX1_pass_45 : decode cX1_pass 45 = .ok (.iload_n 3, 1) := by decide +kernel
theorem dX1_pass_46 : decode cX1_pass 46 = .ok (.i2l, 1) := by decide +kernel
theorem dX1_pass_47 : decode cX1_pass 47 = .ok (.ladd, 1) := by decide +kernel
theorem dX1_pass_48 : decode cX1_pass 48 = .ok (.putfield 55, 3) := by decide +kernel
theorem dX1_pass_51 : decode cX1_pass 51 = .ok (.return_, 1) := by decide +kernel
theorem dX1_spread_0 : decode cX1_spread 0 = .ok (.aload_n 0, 1) := by decide +kernel
theorem dX1_spread_1 : decode cX1_spread 1 = .ok (.iload_n 1, 1) := by decide +kernel
theorem dX1_spread_2 : decode cX1_spread 2 = .ok (.ifCond .lt 12, 3) := by decide +kernel
theorem dX1_spread_5 : decode cX1_spread 5 = .ok (.iload_n 1, 1) := by decide +kernel
theorem dX1_spread_6 : decode cX1_spread 6 = .ok (.iconst 2, 1) := by decide +kernel
theorem dX1_spread_7 : decode cX1_spread 7 = .ok (.if_icmp .gt 7, 3) := by decide +kernel
theorem dX1_spread_10 : decode cX1_spread 10 = .ok (.iconst 0, 1) := by decide +kernel
theorem dX1_spread_11 : decode cX1_spread 11 = .ok (.goto 4, 3) := by decide +kernel
theorem dX1_spread_14 : decode cX1_spread 14 = .ok (.iconst 1, 1) := by decide +kernel
theorem dX1_spread_15 : decode cX1_spread 15 = .ok (.putfield 33, 3) := by decide +kernel
theorem dX1_spread_18 : decode cX1_spread 18 = .ok (.aload_n 0, 1) := by decide +kernel
theorem dX1_spread_19 : decode cX1_spread 19 = .ok (.getfield 33, 3) := by decide +kernel
theorem dX1_spread_22 : decode cX1_spread 22 = .ok (.ifCond .le 5, 3) := by decide +kernel
theorem dX1_spread_25 : decode cX1_spread 25 = .ok (.iconst 0, 1) := by decide +kernel
theorem dX1_spread_26 : decode cX1_spread 26 = .ok (.ireturn, 1) := by decide +kernel
theorem dX1_spread_27 : decode cX1_spread 27 = .ok (.aload_n 0, 1) := by decide +kernel
theorem dX1_spread_28 : decode cX1_spread 28 = .ok (.lconst 0, 1) := by decide +kernel
theorem dX1_spread_29 : decode cX1_spread 29 = .ok (.putfield 55, 3) := by decide +kernel
theorem dX1_spread_32 : decode cX1_spread 32 = .ok (.iconst 0, 1) := by decide +kernel
theorem dX1_spread_33 : decode cX1_spread 33 = .ok (.istore_n 2, 1) := by decide +kernel
theorem dX1_spread_34 : decode cX1_spread 34 = .ok (.iload_n 2, 1) := by decide +kernel
theorem dX1_spread_35 : decode cX1_spread 35 = .ok (.sipush 256, 3) := by decide +kernel
theorem dX1_spread_38 : decode cX1_spread 38 = .ok (.if_icmp .ge 16, 3) := by decide +kernel
theorem dX1_spread_41 : decode cX1_spread 41 = .ok (.aload_n 0, 1) := by decide +kernel
theorem dX1_spread_42 : decode cX1_spread 42 = .ok (.getfield 20, 3) := by decide +kernel
theorem dX1_spread_45 : decode cX1_spread 45 = .ok (.iload_n 2, 1) := by decide +kernel
theorem dX1_spread_46 : decode cX1_spread 46 = .ok (.iconst 0, 1) := by decide +kernel
theorem dX1_spread_47 : decode cX1_spread 47 = .ok (.iastore, 1) := by decide +kernel
theorem dX1_spread_48 : decode cX1_spread 48 = .ok (.iinc 2 1, 3) := by decide +kernel
theorem dX1_spread_51 : decode cX1_spread 51 = .ok (.goto (-17), 3) := by decide +kernel
theorem dX1_spread_54 : decode cX1_spread 54 = .ok (.iconst 0, 1) := by decide +kernel
theorem dX1_spread_55 : decode cX1_spread 55 = .ok (.istore_n 2, 1) := by decide +kernel
theorem dX1_spread_56 : decode cX1_spread 56 = .ok (.iload_n 2, 1) := by decide +kernel
theorem dX1_spread_57 : decode cX1_spread 57 = .ok (.aload_n 0, 1) := by decide +kernel
theorem dX1_spread_58 : decode cX1_spread 58 = .ok (.getfield 30, 3) := by decide +kernel
theorem dX1_spread_61 : decode cX1_spread 61 = .ok (.if_icmp .ge 227, 3) := by decide +kernel
theorem dX1_spread_64 : decode cX1_spread 64 = .ok (.iload_n 1, 1) := by decide +kernel
theorem dX1_spread_65 : decode cX1_spread 65 = .ok (.iconst 1, 1) := by decide +kernel
theorem dX1_spread_66 : decode cX1_spread 66 = .ok (.if_icmp .ne 14, 3) := by decide +kernel
theorem dX1_spread_69 : decode cX1_spread 69 = .ok (.iload_n 2, 1) := by decide +kernel
theorem dX1_spread_70 : decode cX1_spread 70 = .ok (.iconst 2, 1) := by decide +kernel
theorem dX1_spread_71 : decode cX1_spread 71 = .ok (.irem, 1) := by decide +kernel
theorem dX1_spread_72 : decode cX1_spread 72 = .ok (.iconst 1, 1) := by decide +kernel
theorem dX1_spread_73 : decode cX1_spread 73 = .ok (.if_icmp .ne 7, 3) := by decide +kernel
theorem dX1_spread_76 : decode cX1_spread 76 = .ok (.iconst 1, 1) := by decide +kernel
theorem dX1_spread_77 : decode cX1_spread 77 = .ok (.goto 4, 3) := by decide +kernel
theorem dX1_spread_80 : decode cX1_spread 80 = .ok (.iconst 0, 1) := by decide +kernel
theorem dX1_spread_81 : decode cX1_spread 81 = .ok (.istore_n 3, 1) := by decide +kernel
theorem dX1_spread_82 : decode cX1_spread 82 = .ok (.iconst 0, 1) := by decide +kernel
theorem dX1_spread_83 : decode cX1_spread 83 = .ok (.istore 4, 2) := by decide +kernel
theorem dX1_spread_85 : decode cX1_spread 85 = .ok (.iload 4, 2) := by decide +kernel
theorem dX1_spread_87 : decode cX1_spread 87 = .ok (.aload_n 0, 1) := by decide +kernel
theorem dX1_spread_88 : decode cX1_spread 88 = .ok (.getfield 26, 3) := by decide +kernel
theorem dX1_spread_91 : decode cX1_spread 91 = .ok (.if_icmp .ge 191, 3) := by decide +kernel
theorem dX1_spread_94 : decode cX1_spread 94 = .ok (.iload_n 3, 1) := by decide +kernel
theorem dX1_spread_95 : decode cX1_spread 95 = .ok (.ifCond .eq 15, 3) := by decide +kernel
theorem dX1_spread_98 : decode cX1_spread 98 = .ok (.aload_n 0, 1) := by decide +kernel
theorem dX1_spread_99 : decode cX1_spread 99 = .ok (.getfield 26, 3) := by decide +kernel
theorem dX1_spread_102 : decode cX1_spread 102 = .ok (.iconst 1, 1) := by decide +kernel
theorem dX1_spread_103 : decode cX1_spread 103 = .ok (.isub, 1) := by decide +kernel
theorem dX1_spread_104 : decode cX1_spread 104 = .ok (.iload 4, 2) := by decide +kernel
theorem dX1_spread_106 : decode cX1_spread 106 = .ok (.isub, 1) := by decide +kernel
theorem dX1_spread_107 : decode cX1_spread 107 = .ok (.goto 5, 3) := by decide +kernel
theorem dX1_spread_110 : decode cX1_spread 110 = .ok (.iload 4, 2) := by decide +kernel
theorem dX1_spread_112 : decode cX1_spread 112 = .ok (.istore 5, 2) := by decide +kernel
theorem dX1_spread_114 : decode cX1_spread 114 = .ok (.aload_n 0, 1) := by decide +kernel
theorem dX1_spread_115 : decode cX1_spread 115 = .ok (.getfield 26, 3) := by decide +kernel
theorem dX1_spread_118 : decode cX1_spread 118 = .ok (.iload_n 2, 1) := by decide +kernel
theorem dX1_spread_119 : decode cX1_spread 119 = .ok (.imul, 1) := by decide +kernel
theorem dX1_spread_120 : decode cX1_spread 120 = .ok (.iload 5, 2) := by decide +kernel
theorem dX1_spread_122 : decode cX1_spread 122 = .ok (.iadd, 1) := by decide +kernel
theorem dX1_spread_123 : decode cX1_spread 123 = .ok (.istore 6, 2) := by decide +kernel
theorem dX1_spread_125 : decode cX1_spread 125 = .ok (.aload_n 0, 1) := by decide +kernel
theorem dX1_spread_126 : decode cX1_spread 126 = .ok (.getfield 7, 3) := by decide +kernel
theorem dX1_spread_129 : decode cX1_spread 129 = .ok (.iload 6, 2) := by decide +kernel
theorem dX1_spread_131 : decode cX1_spread 131 = .ok (.iaload, 1) := by decide +kernel
theorem dX1_spread_132 : decode cX1_spread 132 = .ok (.aload_n 0, 1) := by decide +kernel
theorem dX1_spread_133 : decode cX1_spread 133 = .ok (.getfield 20, 3) := by decide +kernel
theorem dX1_spread_136 : decode cX1_spread 136 = .ok (.iload 6, 2) := by decide +kernel
theorem dX1_spread_138 : decode cX1_spread 138 = .ok (.iaload, 1) := by decide +kernel
theorem dX1_spread_139 : decode cX1_spread 139 = .ok (.iadd, 1) := by decide +kernel
theorem dX1_spread_140 : decode cX1_spread 140 = .ok (.istore 7, 2) := by decide +kernel
theorem dX1_spread_142 : decode cX1_spread 142 = .ok (.aload_n 0, 1) := by decide +kernel
theorem dX1_spread_143 : decode cX1_spread 143 = .ok (.getfield 13, 3) := by decide +kernel
theorem dX1_spread_146 : decode cX1_spread 146 = .ok (.iload 6, 2) := by decide +kernel
theorem dX1_spread_148 : decode cX1_spread 148 = .ok (.iload 7, 2) := by decide +kernel
theorem dX1_spread_150 : decode cX1_spread 150 = .ok (.sipush 128, 3) := by decide +kernel
theorem dX1_spread_153 : decode cX1_spread 153 = .ok (.if_icmp .ge 7, 3) := by decide +kernel
theorem dX1_spread_156 : decode cX1_spread 156 = .ok (.iconst 1, 1) := by decide +kernel
theorem dX1_spread_157 : decode cX1_spread 157 = .ok (.goto 4, 3) := by decide +kernel
theorem dX1_spread_160 : decode cX1_spread 160 = .ok (.iconst 0, 1) := by decide +kernel
theorem dX1_spread_161 : decode cX1_spread 161 = .ok (.bastore, 1) := by decide +kernel
theorem dX1_spread_162 : decode cX1_spread 162 = .ok (.aload_n 0, 1) := by decide +kernel
theorem dX1_spread_163 : decode cX1_spread 163 = .ok (.getfield 13, 3) := by decide +kernel
theorem dX1_spread_166 : decode cX1_spread 166 = .ok (.iload 6, 2) := by decide +kernel
theorem dX1_spread_168 : decode cX1_spread 168 = .ok (.baload, 1) := by decide +kernel
theorem dX1_spread_169 : decode cX1_spread 169 = .ok (.ifCond .eq 8, 3) := by decide +kernel
theorem dX1_spread_172 : decode cX1_spread 172 = .ok (.iload 7, 2) := by decide +kernel
theorem dX1_spread_174 : decode cX1_spread 174 = .ok (.goto 9, 3) := by decide +kernel
theorem dX1_spread_177 : decode cX1_spread 177 = .ok (.iload 7, 2) := by decide +kernel
theorem dX1_spread_179 : decode cX1_spread 179 = .ok (.sipush 255, 3) := by decide +kernel
theorem dX1_spread_182 : decode cX1_spread 182 = .ok (.isub, 1) := by decide +kernel
theorem dX1_spread_183 : decode cX1_spread 183 = .ok (.istore 8, 2) := by decide +kernel
theorem dX1_spread_185 : decode cX1_spread 185 = .ok (.iload 8, 2) := by decide +kernel
theorem dX1_spread_187 : decode cX1_spread 187 = .ok (.iconst 2, 1) := by decide +kernel
theorem dX1_spread_188 : decode cX1_spread 188 = .ok (.idiv, 1) := by decide +kernel
theorem dX1_spread_189 : decode cX1_spread 189 = .ok (.istore 9, 2) := by decide +kernel
theorem dX1_spread_191 : decode cX1_spread 191 = .ok (.iload_n 1, 1) := by decide +kernel
theorem dX1_spread_192 : decode cX1_spread 192 = .ok (.iconst 2, 1) := by decide +kernel
theorem dX1_spread_193 : decode cX1_spread 193 = .ok (.if_icmp .ne 10, 3) := by decide +kernel
theorem dX1_spread_196 : decode cX1_spread 196 = .ok (.iload 8, 2) := by decide +kernel
theorem dX1_spread_198 : decode cX1_spread 198 = .ok (.iconst 4, 1) := by decide +kernel
theorem dX1_spread_199 : decode cX1_spread 199 = .ok (.idiv, 1) := by decide +kernel
theorem dX1_spread_200 : decode cX1_spread 200 = .ok (.goto 4, 3) := by decide +kernel
theorem dX1_spread_203 : decode cX1_spread 203 = .ok (.iconst 0, 1) := by decide +kernel
theorem dX1_spread_204 : decode cX1_spread 204 = .ok (.istore 10, 2) := by decide +kernel
theorem dX1_spread_206 : decode cX1_spread 206 = .ok (.aload_n 0, 1) := by decide +kernel
theorem dX1_spread_207 : decode cX1_spread 207 = .ok (.iload_n 3, 1) := by decide +kernel
theorem dX1_spread_208 : decode cX1_spread 208 = .ok (.ifCond .eq 10, 3) := by decide +kernel
theorem dX1_spread_211 : decode cX1_spread 211 = .ok (.iload 5, 2) := by decide +kernel
theorem dX1_spread_213 : decode cX1_spread 213 = .ok (.iconst 1, 1) := by decide +kernel
theorem dX1_spread_214 : decode cX1_spread 214 = .ok (.isub, 1) := by decide +kernel
theorem dX1_spread_215 : decode cX1_spread 215 = .ok (.goto 7, 3) := by decide +kernel
theorem dX1_spread_218 : decode cX1_spread 218 = .ok (.iload 5, 2) := by decide +kernel
theorem dX1_spread_220 : decode cX1_spread 220 = .ok (.iconst 1, 1) := by decide +kernel
theorem dX1_spread_221 : decode cX1_spread 221 = .ok (.iadd, 1) := by decide +kernel
theorem dX1_spread_222 : decode cX1_spread 222 = .ok (.iload_n 2, 1) := by decide +kernel
theorem dX1_spread_223 : decode cX1_spread 223 = .ok (.iload 9, 2) := by decide +kernel
theorem dX1_spread_225 : decode cX1_spread 225 = .ok (.invokevirtual 59, 3) := by decide +kernel
theorem dX1_spread_228 : decode cX1_spread 228 = .ok (.aload_n 0, 1) := by decide +kernel
theorem dX1_spread_229 : decode cX1_spread 229 = .ok (.iload 5, 2) := by decide +kernel
theorem dX1_spread_231 : decode cX1_spread 231 = .ok (.iload_n 2, 1) := by decide +kernel
theorem dX1_spread_232 : decode cX1_spread 232 = .ok (.iconst 1, 1) := by decide +kernel
theorem dX1_spread_233 : decode cX1_spread 233 = .ok (.iadd, 1) := by decide +kernel
theorem dX1_spread_234 : decode cX1_spread 234 = .ok (.iload_n 1, 1) := by decide +kernel
theorem dX1_spread_235 : decode cX1_spread 235 = .ok (.iconst 2, 1) := by decide +kernel
theorem dX1_spread_236 : decode cX1_spread 236 = .ok (.if_icmp .ne 8, 3) := by decide +kernel
theorem dX1_spread_239 : decode cX1_spread 239 = .ok (.iload 10, 2) := by decide +kernel
theorem dX1_spread_241 : decode cX1_spread 241 = .ok (.goto 8, 3) := by decide +kernel
theorem dX1_spread_244 : decode cX1_spread 244 = .ok (.iload 8, 2) := by decide +kernel
theorem dX1_spread_246 : decode cX1_spread 246 = .ok (.iload 9, 2) := by decide +kernel
theorem dX1_spread_248 : decode cX1_spread 248 = .ok (.isub, 1) := by decide +kernel
theorem dX1_spread_249 : decode cX1_spread 249 = .ok (.invokevirtual 59, 3) := by decide +kernel
theorem dX1_spread_252 : decode cX1_spread 252 = .ok (.iload_n 1, 1) := by decide +kernel
theorem dX1_spread_253 : decode cX1_spread 253 = .ok (.iconst 2, 1) := by decide +kernel
theorem dX1_spread_254 : decode cX1_spread 254 = .ok (.if_icmp .ne 22, 3) := by decide +kernel
theorem dX1_spread_257 : decode cX1_spread 257 = .ok (.aload_n 0, 1) := by decide +kernel
theorem dX1_spread_258 : decode cX1_spread 258 = .ok (.iload 5, 2) := by decide +kernel
theorem dX1_spread_260 : decode cX1_spread 260 = .ok (.iconst 1, 1) := by decide +kernel
theorem dX1_spread_261 : decode cX1_spread 261 = .ok (.isub, 1) := by decide +kernel
theorem dX1_spread_262 : decode cX1_spread 262 = .ok (.iload_n 2, 1) := by decide +kernel
theorem dX1_spread_263 : decode cX1_spread 263 = .ok (.iconst 1, 1) := by decide +kernel
theorem dX1_spread_264 : decode cX1_spread 264 = .ok (.iadd, 1) := by decide +kernel
theorem dX1_spread_265 : decode cX1_spread 265 = .ok (.iload 8, 2) := by decide +kernel
theorem dX1_spread_267 : decode cX1_spread 267 = .ok (.iload 9, 2) := by decide +kernel
theorem dX1_spread_269 : decode cX1_spread 269 = .ok (.isub, 1) := by decide +kernel
theorem dX1_spread_270 : decode cX1_spread 270 = .ok (.iload 10, 2) := by decide +kernel
theorem dX1_spread_272 : decode cX1_spread 272 = .ok (.isub, 1) := by decide +kernel
theorem dX1_spread_273 : decode cX1_spread 273 = .ok (.invokevirtual 59, 3) := by decide +kernel
theorem dX1_spread_276 : decode cX1_spread 276 = .ok (.iinc 4 1, 3) := by decide +kernel
theorem dX1_spread_279 : decode cX1_spread 279 = .ok (.goto (-194), 3) := by decide +kernel
theorem dX1_spread_282 : decode cX1_spread 282 = .ok (.iinc 2 1, 3) := by decide +kernel
theorem dX1_spread_285 : decode cX1_spread 285 = .ok (.goto (-229), 3) := by decide +kernel
theorem dX1_spread_288 : decode cX1_spread 288 = .ok (.aload_n 0, 1) := by decide +kernel
theorem dX1_spread_289 : decode cX1_spread 289 = .ok (.invokevirtual 52, 3) := by decide +kernel
theorem dX1_spread_292 : decode cX1_spread 292 = .ok (.ireturn, 1) := by decide +kernel
theorem dX1_rest_0 : decode cX1_rest 0 = .ok (.aload_n 0, 1) := by decide +kernel
theorem dX1_rest_1 : decode cX1_rest 1 = .ok (.iconst 0, 1) := by decide +kernel
theorem dX1_rest_2 : decode cX1_rest 2 = .ok (.putfield 33, 3) := by decide +kernel
theorem dX1_rest_5 : decode cX1_rest 5 = .ok (.aload_n 0, 1) := by decide +kernel
theorem dX1_rest_6 : decode cX1_rest 6 = .ok (.getfield 55, 3) := by decide +kernel
theorem dX1_rest_9 : decode cX1_rest 9 = .ok (.lreturn, 1) := by decide +kernel
theorem dX1_isCells_0 : decode cX1_isCells 0 = .ok (.iload_n 0, 1) := by decide +kernel
theorem dX1_isCells_1 : decode cX1_isCells 1 = .ok (.iconst 1, 1) := by decide +kernel
theorem dX1_isCells_2 : decode cX1_isCells 2 = .ok (.if_icmp .eq 19, 3) := by decide +kernel
theorem dX1_isCells_5 : decode cX1_isCells 5 = .ok (.iload_n 0, 1) := by decide +kernel
theorem dX1_isCells_6 : decode cX1_isCells 6 = .ok (.iconst 2, 1) := by decide +kernel
theorem dX1_isCells_7 : decode cX1_isCells 7 = .ok (.if_icmp .eq 14, 3) := by decide +kernel
theorem dX1_isCells_10 : decode cX1_isCells 10 = .ok (.iload_n 0, 1) := by decide +kernel
theorem dX1_isCells_11 : decode cX1_isCells 11 = .ok (.iconst 4, 1) := by decide +kernel
theorem dX1_isCells_12 : decode cX1_isCells 12 = .ok (.if_icmp .eq 9, 3) := by decide +kernel
theorem dX1_isCells_15 : decode cX1_isCells 15 = .ok (.iload_n 0, 1) := by decide +kernel
theorem dX1_isCells_16 : decode cX1_isCells 16 = .ok (.bipush 8, 2) := by decide +kernel
theorem dX1_isCells_18 : decode cX1_isCells 18 = .ok (.if_icmp .ne 7, 3) := by decide +kernel
theorem dX1_isCells_21 : decode cX1_isCells 21 = .ok (.iconst 1, 1) := by decide +kernel
theorem dX1_isCells_22 : decode cX1_isCells 22 = .ok (.goto 4, 3) := by decide +kernel
theorem dX1_isCells_25 : decode cX1_isCells 25 = .ok (.iconst 0, 1) := by decide +kernel
theorem dX1_isCells_26 : decode cX1_isCells 26 = .ok (.ireturn, 1) := by decide +kernel
theorem dX1_cellOf_0 : decode cX1_cellOf 0 = .ok (.iconst 0, 1) := by decide +kernel
theorem dX1_cellOf_1 : decode cX1_cellOf 1 = .ok (.istore_n 3, 1) := by decide +kernel
theorem dX1_cellOf_2 : decode cX1_cellOf 2 = .ok (.iconst 1, 1) := by decide +kernel
theorem dX1_cellOf_3 : decode cX1_cellOf 3 = .ok (.istore 4, 2) := by decide +kernel
theorem dX1_cellOf_5 : decode cX1_cellOf 5 = .ok (.iload 4, 2) := by decide +kernel
theorem dX1_cellOf_7 : decode cX1_cellOf 7 = .ok (.iload_n 0, 1) := by decide +kernel
theorem dX1_cellOf_8 : decode cX1_cellOf 8 = .ok (.if_icmp .ge 79, 3) := by decide +kernel
theorem dX1_cellOf_11 : decode cX1_cellOf 11 = .ok (.iload_n 1, 1) := by decide +kernel
theorem dX1_cellOf_12 : decode cX1_cellOf 12 = .ok (.iload 4, 2) := by decide +kernel
theorem dX1_cellOf_14 : decode cX1_cellOf 14 = .ok (.idiv, 1) := by decide +kernel
theorem dX1_cellOf_15 : decode cX1_cellOf 15 = .ok (.iconst 2, 1) := by decide +kernel
theorem dX1_cellOf_16 : decode cX1_cellOf 16 = .ok (.irem, 1) := by decide +kernel
theorem dX1_cellOf_17 : decode cX1_cellOf 17 = .ok (.iconst 1, 1) := by decide +kernel
theorem dX1_cellOf_18 : decode cX1_cellOf 18 = .ok (.if_icmp .ne 7, 3) := by decide +kernel
theorem dX1_cellOf_21 : decode cX1_cellOf 21 = .ok (.iconst 1, 1) := by decide +kernel
theorem dX1_cellOf_22 : decode cX1_cellOf 22 = .ok (.goto 4, 3) := by decide +kernel
theorem dX1_cellOf_25 : decode cX1_cellOf 25 = .ok (.iconst 0, 1) := by decide +kernel
theorem dX1_cellOf_26 : decode cX1_cellOf 26 = .ok (.istore 5, 2) := by decide +kernel
theorem dX1_cellOf_28 : decode cX1_cellOf 28 = .ok (.iload_n 2, 1) := by decide +kernel
theorem dX1_cellOf_29 : decode cX1_cellOf 29 = .ok (.iload 4, 2) := by decide +kernel
theorem dX1_cellOf_31 : decode cX1_cellOf 31 = .ok (.idiv, 1) := by decide +kernel
theorem dX1_cellOf_32 : decode cX1_cellOf 32 = .ok (.iconst 2, 1) := by decide +kernel
theorem dX1_cellOf_33 : decode cX1_cellOf 33 = .ok (.irem, 1) := by decide +kernel
theorem dX1_cellOf_34 : decode cX1_cellOf 34 = .ok (.iconst 1, 1) := by decide +kernel
theorem dX1_cellOf_35 : decode cX1_cellOf 35 = .ok (.if_icmp .ne 7, 3) := by decide +kernel
theorem dX1_cellOf_38 : decode cX1_cellOf 38 = .ok (.iconst 1, 1) := by decide +kernel
theorem dX1_cellOf_39 : decode cX1_cellOf 39 = .ok (.goto 4, 3) := by decide +kernel
theorem dX1_cellOf_42 : decode cX1_cellOf 42 = .ok (.iconst 0, 1) := by decide +kernel
theorem dX1_cellOf_43 : decode cX1_cellOf 43 = .ok (.istore 6, 2) := by decide +kernel
theorem dX1_cellOf_45 : decode cX1_cellOf 45 = .ok (.iconst 4, 1) := by decide +kernel
theorem dX1_cellOf_46 : decode cX1_cellOf 46 = .ok (.iload_n 3, 1) := by decide +kernel
theorem dX1_cellOf_47 : decode cX1_cellOf 47 = .ok (.imul, 1) := by decide +kernel
theorem dX1_cellOf_48 : decode cX1_cellOf 48 = .ok (.iload 5, 2) := by decide +kernel
theorem dX1_cellOf_50 : decode cX1_cellOf 50 = .ok (.ifCond .eq 16, 3) := by decide +kernel
theorem dX1_cellOf_53 : decode cX1_cellOf 53 = .ok (.iload 6, 2) := by decide +kernel
theorem dX1_cellOf_55 : decode cX1_cellOf 55 = .ok (.ifCond .eq 7, 3) := by decide +kernel
theorem dX1_cellOf_58 : decode cX1_cellOf 58 = .ok (.iconst 1, 1) := by decide +kernel
theorem dX1_cellOf_59 : decode cX1_cellOf 59 = .ok (.goto 17, 3) := by decide +kernel
theorem dX1_cellOf_62 : decode cX1_cellOf 62 = .ok (.iconst 2, 1) := by decide +kernel
theorem dX1_cellOf_63 : decode cX1_cellOf 63 = .ok (.goto 13, 3) := by decide +kernel
theorem dX1_cellOf_66 : decode cX1_cellOf 66 = .ok (.iload 6, 2) := by decide +kernel
theorem dX1_cellOf_68 : decode cX1_cellOf 68 = .ok (.ifCond .eq 7, 3) := by decide +kernel
theorem dX1_cellOf_71 : decode cX1_cellOf 71 = .ok (.iconst 3, 1) := by decide +kernel
theorem dX1_cellOf_72 : decode cX1_cellOf 72 = .ok (.goto 4, 3) := by decide +kernel
theorem dX1_cellOf_75 : decode cX1_cellOf 75 = .ok (.iconst 0, 1) := by decide +kernel
theorem dX1_cellOf_76 : decode cX1_cellOf 76 = .ok (.iadd, 1) := by decide +kernel
theorem dX1_cellOf_77 : decode cX1_cellOf 77 = .ok (.istore_n 3, 1) := by decide +kernel
theorem dX1_cellOf_78 : decode cX1_cellOf 78 = .ok (.iconst 2, 1) := by decide +kernel
theorem dX1_cellOf_79 : decode cX1_cellOf 79 = .ok (.iload 4, 2) := by decide +kernel
theorem dX1_cellOf_81 : decode cX1_cellOf 81 = .ok (.imul, 1) := by decide +kernel
theorem dX1_cellOf_82 : decode cX1_cellOf 82 = .ok (.istore 4, 2) := by decide +kernel
theorem dX1_cellOf_84 : decode cX1_cellOf 84 = .ok (.goto (-79), 3) := by decide +kernel
theorem dX1_cellOf_87 : decode cX1_cellOf 87 = .ok (.iload_n 3, 1) := by decide +kernel
theorem dX1_cellOf_88 : decode cX1_cellOf 88 = .ok (.ireturn, 1) := by decide +kernel
theorem dX1_ordered_0 : decode cX1_ordered 0 = .ok (.aload_n 0, 1) := by decide +kernel
theorem dX1_ordered_1 : decode cX1_ordered 1 = .ok (.iload_n 1, 1) := by decide +kernel
theorem dX1_ordered_2 : decode cX1_ordered 2 = .ok (.invokestatic 63, 3) := by decide +kernel
theorem dX1_ordered_5 : decode cX1_ordered 5 = .ok (.ifCond .eq 7, 3) := by decide +kernel
theorem dX1_ordered_8 : decode cX1_ordered 8 = .ok (.iconst 0, 1) := by decide +kernel
theorem dX1_ordered_9 : decode cX1_ordered 9 = .ok (.goto 4, 3) := by decide +kernel
theorem dX1_ordered_12 : decode cX1_ordered 12 = .ok (.iconst 1, 1) := by decide +kernel
theorem dX1_ordered_13 : decode cX1_ordered 13 = .ok (.putfield 33, 3) := by decide +kernel
theorem dX1_ordered_16 : decode cX1_ordered 16 = .ok (.aload_n 0, 1) := by decide +kernel
theorem dX1_ordered_17 : decode cX1_ordered 17 = .ok (.getfield 33, 3) := by decide +kernel
theorem dX1_ordered_20 : decode cX1_ordered 20 = .ok (.ifCond .le 5, 3) := by decide +kernel
theorem dX1_ordered_23 : decode cX1_ordered 23 = .ok (.iconst 0, 1) := by decide +kernel
theorem dX1_ordered_24 : decode cX1_ordered 24 = .ok (.ireturn, 1) := by decide +kernel
theorem dX1_ordered_25 : decode cX1_ordered 25 = .ok (.iconst 0, 1) := by decide +kernel
theorem dX1_ordered_26 : decode cX1_ordered 26 = .ok (.istore_n 2, 1) := by decide +kernel
theorem dX1_ordered_27 : decode cX1_ordered 27 = .ok (.iload_n 2, 1) := by decide +kernel
theorem dX1_ordered_28 : decode cX1_ordered 28 = .ok (.aload_n 0, 1) := by decide +kernel
theorem dX1_ordered_29 : decode cX1_ordered 29 = .ok (.invokevirtual 40, 3) := by decide +kernel
theorem dX1_ordered_32 : decode cX1_ordered 32 = .ok (.if_icmp .ge 61, 3) := by decide +kernel
theorem dX1_ordered_35 : decode cX1_ordered 35 = .ok (.iload_n 1, 1) := by decide +kernel
theorem dX1_ordered_36 : decode cX1_ordered 36 = .ok (.iload_n 2, 1) := by decide +kernel
theorem dX1_ordered_37 : decode cX1_ordered 37 = .ok (.aload_n 0, 1) := by decide +kernel
theorem dX1_ordered_38 : decode cX1_ordered 38 = .ok (.getfield 26, 3) := by decide +kernel
theorem dX1_ordered_41 : decode cX1_ordered 41 = .ok (.irem, 1) := by decide +kernel
theorem dX1_ordered_42 : decode cX1_ordered 42 = .ok (.iload_n 2, 1) := by decide +kernel
theorem dX1_ordered_43 : decode cX1_ordered 43 = .ok (.aload_n 0, 1) := by decide +kernel
theorem dX1_ordered_44 : decode cX1_ordered 44 = .ok (.getfield 26, 3) := by decide +kernel
theorem dX1_ordered_47 : decode cX1_ordered 47 = .ok (.idiv, 1) := by decide +kernel
theorem dX1_ordered_48 : decode cX1_ordered 48 = .ok (.invokestatic 67, 3) := by decide +kernel
theorem dX1_ordered_51 : decode cX1_ordered 51 = .ok (.istore_n 3, 1) := by decide +kernel
theorem dX1_ordered_52 : decode cX1_ordered 52 = .ok (.aload_n 0, 1) := by decide +kernel
theorem dX1_ordered_53 : decode cX1_ordered 53 = .ok (.getfield 13, 3) := by decide +kernel
theorem dX1_ordered_56 : decode cX1_ordered 56 = .ok (.iload_n 2, 1) := by decide +kernel
theorem dX1_ordered_57 : decode cX1_ordered 57 = .ok (.iconst 2, 1) := by decide +kernel
theorem dX1_ordered_58 : decode cX1_ordered 58 = .ok (.iload_n 1, 1) := by decide +kernel
theorem dX1_ordered_59 : decode cX1_ordered 59 = .ok (.imul, 1) := by decide +kernel
theorem dX1_ordered_60 : decode cX1_ordered 60 = .ok (.iload_n 1, 1) := by decide +kernel
theorem dX1_ordered_61 : decode cX1_ordered 61 = .ok (.imul, 1) := by decide +kernel
theorem dX1_ordered_62 : decode cX1_ordered 62 = .ok (.aload_n 0, 1) := by decide +kernel
theorem dX1_ordered_63 : decode cX1_ordered 63 = .ok (.getfield 7, 3) := by decide +kernel
theorem dX1_ordered_66 : decode cX1_ordered 66 = .ok (.iload_n 2, 1) := by decide +kernel
theorem dX1_ordered_67 : decode cX1_ordered 67 = .ok (.iaload, 1) := by decide +kernel
theorem dX1_ordered_68 : decode cX1_ordered 68 = .ok (.imul, 1) := by decide +kernel
theorem dX1_ordered_69 : decode cX1_ordered 69 = .ok (.sipush 256, 3) := by decide +kernel
theorem dX1_ordered_72 : decode cX1_ordered 72 = .ok (.iconst 2, 1) := by decide +kernel
theorem dX1_ordered_73 : decode cX1_ordered 73 = .ok (.iload_n 3, 1) := by decide +kernel
theorem dX1_ordered_74 : decode cX1_ordered 74 = .ok (.imul, 1) := by decide +kernel
theorem dX1_ordered_75 : decode cX1_ordered 75 = .ok (.iconst 1, 1) := by decide +kernel
theorem dX1_ordered_76 : decode cX1_ordered 76 = .ok (.iadd, 1) := by decide +kernel
theorem dX1_ordered_77 : decode cX1_ordered 77 = .ok (.imul, 1) := by decide +kernel
theorem dX1_ordered_78 : decode cX1_ordered 78 = .ok (.if_icmp .ge 7, 3) := by decide +kernel
theorem dX1_ordered_81 : decode cX1_ordered 81 = .ok (.iconst 1, 1) := by decide +kernel
theorem dX1_ordered_82 : decode cX1_ordered 82 = .ok (.goto 4, 3) := by decide +kernel
theorem dX1_ordered_85 : decode cX1_ordered 85 = .ok (.iconst 0, 1) := by decide +kernel
theorem dX1_ordered_86 : decode cX1_ordered 86 = .ok (.bastore, 1) := by decide +kernel
theorem dX1_ordered_87 : decode cX1_ordered 87 = .ok (.iinc 2 1, 3) := by decide +kernel
theorem dX1_ordered_90 : decode cX1_ordered 90 = .ok (.goto (-63), 3) := by decide +kernel
theorem dX1_ordered_93 : decode cX1_ordered 93 = .ok (.aload_n 0, 1) := by decide +kernel
theorem dX1_ordered_94 : decode cX1_ordered 94 = .ok (.invokevirtual 52, 3) := by decide +kernel
theorem dX1_ordered_97 : decode cX1_ordered 97 = .ok (.ireturn, 1) := by decide +kernel
theorem dX1_cell_0 : decode cX1_cell 0 = .ok (.aload_n 0, 1) := by decide +kernel
theorem dX1_cell_1 : decode cX1_cell 1 = .ok (.iload_n 1, 1) := by decide +kernel
theorem dX1_cell_2 : decode cX1_cell 2 = .ok (.invokestatic 63, 3) := by decide +kernel
theorem dX1_cell_5 : decode cX1_cell 5 = .ok (.ifCond .eq 15, 3) := by decide +kernel
theorem dX1_cell_8 : decode cX1_cell 8 = .ok (.iload_n 2, 1) := by decide +kernel
theorem dX1_cell_9 : decode cX1_cell 9 = .ok (.ifCond .lt 11, 3) := by decide +kernel
theorem dX1_cell_12 : decode cX1_cell 12 = .ok (.iload_n 3, 1) := by decide +kernel
theorem dX1_cell_13 : decode cX1_cell 13 = .ok (.ifCond .lt 7, 3) := by decide +kernel
theorem dX1_cell_16 : decode cX1_cell 16 = .ok (.iconst 0, 1) := by decide +kernel
theorem dX1_cell_17 : decode cX1_cell 17 = .ok (.goto 4, 3) := by decide +kernel
theorem dX1_cell_20 : decode cX1_cell 20 = .ok (.iconst 1, 1) := by decide +kernel
theorem dX1_cell_21 : decode cX1_cell 21 = .ok (.putfield 33, 3) := by decide +kernel
theorem dX1_cell_24 : decode cX1_cell 24 = .ok (.aload_n 0, 1) := by decide +kernel
theorem dX1_cell_25 : decode cX1_cell 25 = .ok (.getfield 33, 3) := by decide +kernel
theorem dX1_cell_28 : decode cX1_cell 28 = .ok (.ifCond .le 7, 3) := by decide +kernel
theorem dX1_cell_31 : decode cX1_cell 31 = .ok (.iconst 0, 1) := by decide +kernel
theorem dX1_cell_32 : decode cX1_cell 32 = .ok (.goto 9, 3) := by decide +kernel
theorem dX1_cell_35 : decode cX1_cell 35 = .ok (.iload_n 1, 1) := by decide +kernel
theorem dX1_cell_36 : decode cX1_cell 36 = .ok (.iload_n 2, 1) := by decide +kernel
theorem dX1_cell_37 : decode cX1_cell 37 = .ok (.iload_n 3, 1) := by decide +kernel
theorem dX1_cell_38 : decode cX1_cell 38 = .ok (.invokestatic 67, 3) := by decide +kernel
theorem dX1_cell_41 : decode cX1_cell 41 = .ok (.ireturn, 1) := by decide +kernel
theorem dX1_touchesBlack_0 : decode cX1_touchesBlack 0 = .ok (.iconst 0, 1) := by decide +kernel
theorem dX1_touchesBlack_1 : decode cX1_touchesBlack 1 = .ok (.istore_n 3, 1) := by decide +kernel
theorem dX1_touchesBlack_2 : decode cX1_touchesBlack 2 = .ok (.iload_n 2, 1) := by decide +kernel
theorem dX1_touchesBlack_3 : decode cX1_touchesBlack 3 = .ok (.iconst 1, 1) := by decide +kernel
theorem dX1_touchesBlack_4 : decode cX1_touchesBlack 4 = .ok (.isub, 1) := by decide +kernel
theorem dX1_touchesBlack_5 : decode cX1_touchesBlack 5 = .ok (.istore 4, 2) := by decide +kernel
theorem dX1_touchesBlack_7 : decode cX1_touchesBlack 7 = .ok (.iload 4, 2) := by decide +kernel
theorem dX1_touchesBlack_9 : decode cX1_touchesBlack 9 = .ok (.iload_n 2, 1) := by decide +kernel
theorem dX1_touchesBlack_10 : decode cX1_touchesBlack 10 = .ok (.iconst 1, 1) := by decide +kernel
theorem dX1_touchesBlack_11 : decode cX1_touchesBlack 11 = .ok (.iadd, 1) := by decide +kernel
theorem dX1_touchesBlack_12 : decode cX1_touchesBlack 12 = .ok (.if_icmp .gt 67, 3) := by decide +kernel
theorem dX1_touchesBlack_15 : decode cX1_touchesBlack 15 = .ok (.iload_n 1, 1) := by decide +kernel
theorem dX1_touchesBlack_16 : decode cX1_touchesBlack 16 = .ok (.iconst 1, 1) := by decide +kernel
theorem dX1_touchesBlack_17 : decode cX1_touchesBlack 17 = .ok (.isub, 1) := by decide +kernel
theorem dX1_touchesBlack_18 : decode cX1_touchesBlack 18 = .ok (.istore 5, 2) := by decide +kernel
theorem dX1_touchesBlack_20 : decode cX1_touchesBlack 20 = .ok (.iload 5, 2) := by decide +kernel
theorem dX1_touchesBlack_22 : decode cX1_touchesBlack 22 = .ok (.iload_n 1, 1) := by decide +kernel
theorem dX1_touchesBlack_23 : decode cX1_touchesBlack 23 = .ok (.iconst 1, 1) := by decide +kernel
theorem dX1_touchesBlack_24 : decode cX1_touchesBlack 24 = .ok (.iadd, 1) := by decide +kernel
theorem dX1_touchesBlack_25 : decode cX1_touchesBlack 25 = .ok (.if_icmp .gt 48, 3) := by decide +kernel
theorem dX1_touchesBlack_28 : decode cX1_touchesBlack 28 = .ok (.iload_n 3, 1) := by decide +kernel
theorem dX1_touchesBlack_29 : decode cX1_touchesBlack 29 = .ok (.ifCond .ne 32, 3) := by decide +kernel
theorem dX1_touchesBlack_32 : decode cX1_touchesBlack 32 = .ok (.aload_n 0, 1) := by decide +kernel
theorem dX1_touchesBlack_33 : decode cX1_touchesBlack 33 = .ok (.iload 5, 2) := by decide +kernel
theorem dX1_touchesBlack_35 : decode cX1_touchesBlack 35 = .ok (.iload 4, 2) := by decide +kernel
theorem dX1_touchesBlack_37 : decode cX1_touchesBlack 37 = .ok (.invokevirtual 36, 3) := by decide +kernel
theorem dX1_touchesBlack_40 : decode cX1_touchesBlack 40 = .ok (.ifCond .eq 25, 3) := by decide +kernel
theorem dX1_touchesBlack_43 : decode cX1_touchesBlack 43 = .ok (.aload_n 0, 1) := by decide +kernel
theorem dX1_touchesBlack_44 : decode cX1_touchesBlack 44 = .ok (.getfield 13, 3) := by decide +kernel
theorem dX1_touchesBlack_47 : decode cX1_touchesBlack 47 = .ok (.aload_n 0, 1) := by decide +kernel
theorem dX1_touchesBlack_48 : decode cX1_touchesBlack 48 = .ok (.getfield 26, 3) := by decide +kernel
theorem dX1_touchesBlack_51 : decode cX1_touchesBlack 51 = .ok (.iload 4, 2) := by decide +kernel
theorem dX1_touchesBlack_53 : decode cX1_touchesBlack 53 = .ok (.imul, 1) := by decide +kernel
theorem dX1_touchesBlack_54 : decode cX1_touchesBlack 54 = .ok (.iload 5, 2) := by decide +kernel
theorem dX1_touchesBlack_56 : decode cX1_touchesBlack 56 = .ok (.iadd, 1) := by decide +kernel
theorem dX1_touchesBlack_57 : decode cX1_touchesBlack 57 = .ok (.baload, 1) := by decide +kernel
theorem dX1_touchesBlack_58 : decode cX1_touchesBlack 58 = .ok (.ifCond .eq 7, 3) := by decide +kernel
theorem dX1_touchesBlack_61 : decode cX1_touchesBlack 61 = .ok (.iconst 1, 1) := by decide +kernel
theorem dX1_touchesBlack_62 : decode cX1_touchesBlack 62 = .ok (.goto 4, 3) := by decide +kernel
theorem dX1_touchesBlack_65 : decode cX1_touchesBlack 65 = .ok (.iconst 0, 1) := by decide +kernel
theorem dX1_touchesBlack_66 : decode cX1_touchesBlack 66 = .ok (.istore_n 3, 1) := by decide +kernel
theorem dX1_touchesBlack_67 : decode cX1_touchesBlack 67 = .ok (.iinc 5 1, 3) := by decide +kernel
theorem dX1_touchesBlack_70 : decode cX1_touchesBlack 70 = .ok (.goto (-50), 3) := by decide +kernel
theorem dX1_touchesBlack_73 : decode cX1_touchesBlack 73 = .ok (.iinc 4 1, 3) := by decide +kernel
theorem dX1_touchesBlack_76 : decode cX1_touchesBlack 76 = .ok (.goto (-69), 3) := by decide +kernel
theorem dX1_touchesBlack_79 : decode cX1_touchesBlack 79 = .ok (.iload_n 3, 1) := by decide +kernel
theorem dX1_touchesBlack_80 : decode cX1_touchesBlack 80 = .ok (.ireturn, 1) := by decide +kernel
theorem dX1_join_0 : decode cX1_join 0 = .ok (.iload_n 1, 1) := by decide +kernel
theorem dX1_join_1 : decode cX1_join 1 = .ok (.iload_n 2, 1) := by decide +kernel
theorem dX1_join_2 : decode cX1_join 2 = .ok (.if_icmp .gt 19, 3) := by decide +kernel
theorem dX1_join_5 : decode cX1_join 5 = .ok (.iload_n 1, 1) := by decide +kernel
theorem dX1_join_6 : decode cX1_join 6 = .ok (.iconst (-1), 1) := by decide +kernel
theorem dX1_join_7 : decode cX1_join 7 = .ok (.if_icmp .lt 14, 3) := by decide +kernel
theorem dX1_join_10 : decode cX1_join 10 = .ok (.iload_n 2, 1) := by decide +kernel
theorem dX1_join_11 : decode cX1_join 11 = .ok (.sipush 255, 3) := by decide +kernel
theorem dX1_join_14 : decode cX1_join 14 = .ok (.if_icmp .gt 7, 3) := by decide +kernel
theorem dX1_join_17 : decode cX1_join 17 = .ok (.iconst 1, 1) := by decide +kernel
theorem dX1_join_18 : decode cX1_join 18 = .ok (.goto 4, 3) := by decide +kernel
theorem dX1_join_21 : decode cX1_join 21 = .ok (.iconst 0, 1) := by decide +kernel
theorem dX1_join_22 : decode cX1_join 22 = .ok (.istore_n 3, 1) := by decide +kernel
theorem dX1_join_23 : decode cX1_join 23 = .ok (.aload_n 0, 1) := by decide +kernel
theorem dX1_join_24 : decode cX1_join 24 = .ok (.iload_n 3, 1) := by decide +kernel
theorem dX1_join_25 : decode cX1_join 25 = .ok (.ifCond .eq 7, 3) := by decide +kernel
theorem dX1_join_28 : decode cX1_join 28 = .ok (.iconst 0, 1) := by decide +kernel
theorem dX1_join_29 : decode cX1_join 29 = .ok (.goto 4, 3) := by decide +kernel
theorem dX1_join_32 : decode cX1_join 32 = .ok (.iconst 1, 1) := by decide +kernel
theorem dX1_join_33 : decode cX1_join 33 = .ok (.putfield 33, 3) := by decide +kernel
theorem dX1_join_36 : decode cX1_join 36 = .ok (.aload_n 0, 1) := by decide +kernel
theorem dX1_join_37 : decode cX1_join 37 = .ok (.getfield 33, 3) := by decide +kernel
theorem dX1_join_40 : decode cX1_join 40 = .ok (.ifCond .le 5, 3) := by decide +kernel
theorem dX1_join_43 : decode cX1_join 43 = .ok (.iconst 0, 1) := by decide +kernel
theorem dX1_join_44 : decode cX1_join 44 = .ok (.ireturn, 1) := by decide +kernel
theorem dX1_join_45 : decode cX1_join 45 = .ok (.iconst 0, 1) := by decide +kernel
theorem dX1_join_46 : decode cX1_join 46 = .ok (.istore 4, 2) := by decide +kernel
theorem dX1_join_48 : decode cX1_join 48 = .ok (.iload 4, 2) := by decide +kernel
theorem dX1_join_50 : decode cX1_join 50 = .ok (.aload_n 0, 1) := by decide +kernel
theorem dX1_join_51 : decode cX1_join 51 = .ok (.invokevirtual 40, 3) := by decide +kernel
theorem dX1_join_54 : decode cX1_join 54 = .ok (.if_icmp .ge 32, 3) := by decide +kernel
theorem dX1_join_57 : decode cX1_join 57 = .ok (.aload_n 0, 1) := by decide +kernel
theorem dX1_join_58 : decode cX1_join 58 = .ok (.getfield 13, 3) := by decide +kernel
theorem dX1_join_61 : decode cX1_join 61 = .ok (.iload 4, 2) := by decide +kernel
theorem dX1_join_63 : decode cX1_join 63 = .ok (.aload_n 0, 1) := by decide +kernel
theorem dX1_join_64 : decode cX1_join 64 = .ok (.getfield 7, 3) := by decide +kernel
theorem dX1_join_67 : decode cX1_join 67 = .ok (.iload 4, 2) := by decide +kernel
theorem dX1_join_69 : decode cX1_join 69 = .ok (.iaload, 1) := by decide +kernel
theorem dX1_join_70 : decode cX1_join 70 = .ok (.iload_n 1, 1) := by decide +kernel
theorem dX1_join_71 : decode cX1_join 71 = .ok (.if_icmp .gt 7, 3) := by decide +kernel
theorem dX1_join_74 : decode cX1_join 74 = .ok (.iconst 1, 1) := by decide +kernel
theorem dX1_join_75 : decode cX1_join 75 = .ok (.goto 4, 3) := by decide +kernel
theorem dX1_join_78 : decode cX1_join 78 = .ok (.iconst 0, 1) := by decide +kernel
theorem dX1_join_79 : decode cX1_join 79 = .ok (.bastore, 1) := by decide +kernel
theorem dX1_join_80 : decode cX1_join 80 = .ok (.iinc 4 1, 3) := by decide +kernel
theorem dX1_join_83 : decode cX1_join 83 = .ok (.goto (-35), 3) := by decide +kernel
theorem dX1_join_86 : decode cX1_join 86 = .ok (.iconst 1, 1) := by decide +kernel
theorem dX1_join_87 : decode cX1_join 87 = .ok (.istore 4, 2) := by decide +kernel
theorem dX1_join_89 : decode cX1_join 89 = .ok (.iload 4, 2) := by decide +kernel
theorem dX1_join_91 : decode cX1_join 91 = .ok (.ifCond .eq 80, 3) := by decide +kernel
theorem dX1_join_94 : decode cX1_join 94 = .ok (.iconst 0, 1) := by decide +kernel
theorem dX1_join_95 : decode cX1_join 95 = .ok (.istore 4, 2) := by decide +kernel
theorem dX1_join_97 : decode cX1_join 97 = .ok (.iconst 0, 1) := by decide +kernel
theorem dX1_join_98 : decode cX1_join 98 = .ok (.istore 5, 2) := by decide +kernel
theorem dX1_join_100 : decode cX1_join 100 = .ok (.iload 5, 2) := by decide +kernel
theorem dX1_join_102 : decode cX1_join 102 = .ok (.aload_n 0, 1) := by decide +kernel
theorem dX1_join_103 : decode cX1_join 103 = .ok (.invokevirtual 40, 3) := by decide +kernel
theorem dX1_join_106 : decode cX1_join 106 = .ok (.if_icmp .ge 62, 3) := by decide +kernel
theorem dX1_join_109 : decode cX1_join 109 = .ok (.aload_n 0, 1) := by decide +kernel
theorem dX1_join_110 : decode cX1_join 110 = .ok (.getfield 13, 3) := by decide +kernel
theorem dX1_join_113 : decode cX1_join 113 = .ok (.iload 5, 2) := by decide +kernel
theorem dX1_join_115 : decode cX1_join 115 = .ok (.baload, 1) := by decide +kernel
theorem dX1_join_116 : decode cX1_join 116 = .ok (.ifCond .ne 46, 3) := by decide +kernel
theorem dX1_join_119 : decode cX1_join 119 = .ok (.aload_n 0, 1) := by decide +kernel
theorem dX1_join_120 : decode cX1_join 120 = .ok (.getfield 7, 3) := by decide +kernel
theorem dX1_join_123 : decode cX1_join 123 = .ok (.iload 5, 2) := by decide +kernel
theorem dX1_join_125 : decode cX1_join 125 = .ok (.iaload, 1) := by decide +kernel
theorem dX1_join_126 : decode cX1_join 126 = .ok (.iload_n 2, 1) := by decide +kernel
theorem dX1_join_127 : decode cX1_join 127 = .ok (.if_icmp .gt 35, 3) := by decide +kernel
theorem dX1_join_130 : decode cX1_join 130 = .ok (.aload_n 0, 1) := by decide +kernel
theorem dX1_join_131 : decode cX1_join 131 = .ok (.iload 5, 2) := by decide +kernel
theorem dX1_join_133 : decode cX1_join 133 = .ok (.aload_n 0, 1) := by decide +kernel
theorem dX1_join_134 : decode cX1_join 134 = .ok (.getfield 26, 3) := by decide +kernel
theorem dX1_join_137 : decode cX1_join 137 = .ok (.irem, 1) := by decide +kernel
theorem dX1_join_138 : decode cX1_join 138 = .ok (.iload 5, 2) := by decide +kernel
theorem dX1_join_140 : decode cX1_join 140 = .ok (.aload_n 0, 1) := by decide +kernel
theorem dX1_join_141 : decode cX1_join 141 = .ok (.getfield 26, 3) := by decide +kernel
theorem dX1_join_144 : decode cX1_join 144 = .ok (.idiv, 1) := by decide +kernel
theorem dX1_join_145 : decode cX1_join 145 = .ok (.invokevirtual 71, 3) := by decide +kernel
theorem dX1_join_148 : decode cX1_join 148 = .ok (.ifCond .eq 14, 3) := by decide +kernel
theorem dX1_join_151 : decode cX1_join 151 = .ok (.aload_n 0, 1) := by decide +kernel
theorem dX1_join_152 : decode cX1_join 152 = .ok (.getfield 13, 3) := by decide +kernel
theorem dX1_join_155 : decode cX1_join 155 = .ok (.iload 5, 2) := by decide +kernel
theorem dX1_join_157 : decode cX1_join 157 = .ok (.iconst 1, 1) := by decide +kernel
theorem dX1_join_158 : decode cX1_join 158 = .ok (.bastore, 1) := by decide +kernel
theorem dX1_join_159 : decode cX1_join 159 = .ok (.iconst 1, 1) := by decide +kernel
theorem dX1_join_160 : decode cX1_join 160 = .ok (.istore 4, 2) := by decide +kernel
theorem dX1_join_162 : decode cX1_join 162 = .ok (.iinc 5 1, 3) := by decide +kernel
theorem dX1_join_165 : decode cX1_join 165 = .ok (.goto (-65), 3) := by decide +kernel
theorem dX1_join_168 : decode cX1_join 168 = .ok (.goto (-79), 3) := by decide +kernel
theorem dX1_join_171 : decode cX1_join 171 = .ok (.aload_n 0, 1) := by decide +kernel
theorem dX1_join_172 : decode cX1_join 172 = .ok (.invokevirtual 52, 3) := by decide +kernel
theorem dX1_join_175 : decode cX1_join 175 = .ok (.ireturn, 1) := by decide +kernel
theorem dX1_lesser_0 : decode cX1_lesser 0 = .ok (.aload_n 0, 1) := by decide +kernel
theorem dX1_lesser_1 : decode cX1_lesser 1 = .ok (.iload_n 2, 1) := by decide +kernel
theorem dX1_lesser_2 : decode cX1_lesser 2 = .ok (.iload_n 3, 1) := by decide +kernel
theorem dX1_lesser_3 : decode cX1_lesser 3 = .ok (.invokevirtual 36, 3) := by decide +kernel
theorem dX1_lesser_6 : decode cX1_lesser 6 = .ok (.ifCond .eq 21, 3) := by decide +kernel
theorem dX1_lesser_9 : decode cX1_lesser 9 = .ok (.aload_n 0, 1) := by decide +kernel
theorem dX1_lesser_10 : decode cX1_lesser 10 = .ok (.getfield 13, 3) := by decide +kernel
theorem dX1_lesser_13 : decode cX1_lesser 13 = .ok (.aload_n 0, 1) := by decide +kernel
theorem dX1_lesser_14 : decode cX1_lesser 14 = .ok (.getfield 26, 3) := by decide +kernel
theorem dX1_lesser_17 : decode cX1_lesser 17 = .ok (.iload_n 3, 1) := by decide +kernel
theorem dX1_lesser_18 : decode cX1_lesser 18 = .ok (.imul, 1) := by decide +kernel
theorem dX1_lesser_19 : decode cX1_lesser 19 = .ok (.iload_n 2, 1) := by decide +kernel
theorem dX1_lesser_20 : decode cX1_lesser 20 = .ok (.iadd, 1) := by decide +kernel
theorem dX1_lesser_21 : decode cX1_lesser 21 = .ok (.baload, 1) := by decide +kernel
theorem dX1_lesser_22 : decode cX1_lesser 22 = .ok (.iload 4, 2) := by decide +kernel
theorem dX1_lesser_24 : decode cX1_lesser 24 = .ok (.if_icmp .eq 5, 3) := by decide +kernel
theorem dX1_lesser_27 : decode cX1_lesser 27 = .ok (.iload_n 1, 1) := by decide +kernel
theorem dX1_lesser_28 : decode cX1_lesser 28 = .ok (.ireturn, 1) := by decide +kernel
theorem dX1_lesser_29 : decode cX1_lesser 29 = .ok (.aload_n 0, 1) := by decide +kernel
theorem dX1_lesser_30 : decode cX1_lesser 30 = .ok (.getfield 23, 3) := by decide +kernel
theorem dX1_lesser_33 : decode cX1_lesser 33 = .ok (.aload_n 0, 1) := by decide +kernel
theorem dX1_lesser_34 : decode cX1_lesser 34 = .ok (.getfield 26, 3) := by decide +kernel
theorem dX1_lesser_37 : decode cX1_lesser 37 = .ok (.iload_n 3, 1) := by decide +kernel
theorem dX1_lesser_38 : decode cX1_lesser 38 = .ok (.imul, 1) := by decide +kernel
theorem dX1_lesser_39 : decode cX1_lesser 39 = .ok (.iload_n 2, 1) := by decide +kernel
theorem dX1_lesser_40 : decode cX1_lesser 40 = .ok (.iadd, 1) := by decide +kernel
theorem dX1_lesser_41 : decode cX1_lesser 41 = .ok (.iaload, 1) := by decide +kernel
theorem dX1_lesser_42 : decode cX1_lesser 42 = .ok (.iload_n 1, 1) := by decide +kernel
theorem dX1_lesser_43 : decode cX1_lesser 43 = .ok (.if_icmp .ge 19, 3) := by decide +kernel
theorem dX1_lesser_46 : decode cX1_lesser 46 = .ok (.aload_n 0, 1) := by decide +kernel
theorem dX1_lesser_47 : decode cX1_lesser 47 = .ok (.getfield 23, 3) := by decide +kernel
theorem dX1_lesser_50 : decode cX1_lesser 50 = .ok (.aload_n 0, 1) := by decide +kernel
theorem dX1_lesser_51 : decode cX1_lesser 51 = .ok (.getfield 26, 3) := by decide +kernel
theorem dX1_lesser_54 : decode cX1_lesser 54 = .ok (.iload_n 3, 1) := by decide +kernel
theorem dX1_lesser_55 : decode cX1_lesser 55 = .ok (.imul, 1) := by decide +kernel
theorem dX1_lesser_56 : decode cX1_lesser 56 = .ok (.iload_n 2, 1) := by decide +kernel
theorem dX1_lesser_57 : decode cX1_lesser 57 = .ok (.iadd, 1) := by decide +kernel
theorem dX1_lesser_58 : decode cX1_lesser 58 = .ok (.iaload, 1) := by decide +kernel
theorem dX1_lesser_59 : decode cX1_lesser 59 = .ok (.goto 4, 3) := by decide +kernel
theorem dX1_lesser_62 : decode cX1_lesser 62 = .ok (.iload_n 1, 1) := by decide +kernel
theorem dX1_lesser_63 : decode cX1_lesser 63 = .ok (.ireturn, 1) := by decide +kernel
theorem dX1_findParts_0 : decode cX1_findParts 0 = .ok (.iconst 0, 1) := by decide +kernel
theorem dX1_findParts_1 : decode cX1_findParts 1 = .ok (.istore_n 2, 1) := by decide +kernel
theorem dX1_findParts_2 : decode cX1_findParts 2 = .ok (.iload_n 2, 1) := by decide +kernel
theorem dX1_findParts_3 : decode cX1_findParts 3 = .ok (.aload_n 0, 1) := by decide +kernel
theorem dX1_findParts_4 : decode cX1_findParts 4 = .ok (.invokevirtual 40, 3) := by decide +kernel
theorem dX1_findParts_7 : decode cX1_findParts 7 = .ok (.if_icmp .ge 30, 3) := by decide +kernel
theorem dX1_findParts_10 : decode cX1_findParts 10 = .ok (.aload_n 0, 1) := by decide +kernel
theorem dX1_findParts_11 : decode cX1_findParts 11 = .ok (.getfield 23, 3) := by decide +kernel
theorem dX1_findParts_14 : decode cX1_findParts 14 = .ok (.iload_n 2, 1) := by decide +kernel
theorem dX1_findParts_15 : decode cX1_findParts 15 = .ok (.aload_n 0, 1) := by decide +kernel
theorem dX1_findParts_16 : decode cX1_findParts 16 = .ok (.getfield 13, 3) := by decide +kernel
theorem dX1_findParts_19 : decode cX1_findParts 19 = .ok (.iload_n 2, 1) := by decide +kernel
theorem dX1_findParts_20 : decode cX1_findParts 20 = .ok (.baload, 1) := by decide +kernel
theorem dX1_findParts_21 : decode cX1_findParts 21 = .ok (.iload_n 1, 1) := by decide +kernel
theorem dX1_findParts_22 : decode cX1_findParts 22 = .ok (.if_icmp .ne 7, 3) := by decide +kernel
theorem dX1_findParts_25 : decode cX1_findParts 25 = .ok (.iload_n 2, 1) := by decide +kernel
theorem dX1_findParts_26 : decode cX1_findParts 26 = .ok (.goto 4, 3) := by decide +kernel
theorem dX1_findParts_29 : decode cX1_findParts 29 = .ok (.iconst (-1), 1) := by decide +kernel
theorem dX1_findParts_30 : decode cX1_findParts 30 = .ok (.iastore, 1) := by decide +kernel
theorem dX1_findParts_31 : decode cX1_findParts 31 = .ok (.iinc 2 1, 3) := by decide +kernel
theorem dX1_findParts_34 : decode cX1_findParts 34 = .ok (.goto (-32), 3) := by decide +kernel
theorem dX1_findParts_37 : decode cX1_findParts 37 = .ok (.iconst 1, 1) := by decide +kernel
theorem dX1_findParts_38 : decode cX1_findParts 38 = .ok (.istore_n 2, 1) := by decide +kernel
theorem dX1_findParts_39 : decode cX1_findParts 39 = .ok (.iload_n 2, 1) := by decide +kernel
theorem dX1_findParts_40 : decode cX1_findParts 40 = .ok (.ifCond .eq 143, 3) := by decide +kernel
theorem dX1_findParts_43 : decode cX1_findParts 43 = .ok (.iconst 0, 1) := by decide +kernel
theorem dX1_findParts_44 : decode cX1_findParts 44 = .ok (.istore_n 2, 1) := by decide +kernel
theorem dX1_findParts_45 : decode cX1_findParts 45 = .ok (.iconst 0, 1) := by decide +kernel
theorem dX1_findParts_46 : decode cX1_findParts 46 = .ok (.istore_n 3, 1) := by decide +kernel
theorem dX1_findParts_47 : decode cX1_findParts 47 = .ok (.iload_n 3, 1) := by decide +kernel
theorem dX1_findParts_48 : decode cX1_findParts 48 = .ok (.aload_n 0, 1) := by decide +kernel
theorem dX1_findParts_49 : decode cX1_findParts 49 = .ok (.invokevirtual 40, 3) := by decide +kernel
theorem dX1_findParts_52 : decode cX1_findParts 52 = .ok (.if_icmp .ge 128, 3) := by decide +kernel
theorem dX1_findParts_55 : decode cX1_findParts 55 = .ok (.aload_n 0, 1) := by decide +kernel
theorem dX1_findParts_56 : decode cX1_findParts 56 = .ok (.getfield 23, 3) := by decide +kernel
theorem dX1_findParts_59 : decode cX1_findParts 59 = .ok (.iload_n 3, 1) := by decide +kernel
theorem dX1_findParts_60 : decode cX1_findParts 60 = .ok (.iaload, 1) := by decide +kernel
theorem dX1_findParts_61 : decode cX1_findParts 61 = .ok (.iconst (-1), 1) := by decide +kernel
theorem dX1_findParts_62 : decode cX1_findParts 62 = .ok (.if_icmp .eq 112, 3) := by decide +kernel
theorem dX1_findParts_65 : decode cX1_findParts 65 = .ok (.iload_n 3, 1) := by decide +kernel
theorem dX1_findParts_66 : decode cX1_findParts 66 = .ok (.aload_n 0, 1) := by decide +kernel
theorem dX1_findParts_67 : decode cX1_findParts 67 = .ok (.getfield 26, 3) := by decide +kernel
theorem dX1_findParts_70 : decode cX1_findParts 70 = .ok (.irem, 1) := by decide +kernel
theorem dX1_findParts_71 : decode cX1_findParts 71 = .ok (.istore 4, 2) := by decide +kernel
theorem dX1_findParts_73 : decode cX1_findParts 73 = .ok (.iload_n 3, 1) := by decide +kernel
theorem dX1_findParts_74 : decode cX1_findParts 74 = .ok (.aload_n 0, 1) := by decide +kernel
theorem dX1_findParts_75 : decode cX1_findParts 75 = .ok (.getfield 26, 3) := by decide +kernel
theorem dX1_findParts_78 : decode cX1_findParts 78 = .ok (.idiv, 1) := by decide +kernel
theorem dX1_findParts_79 : decode cX1_findParts 79 = .ok (.istore 5, 2) := by decide +kernel
theorem dX1_findParts_81 : decode cX1_findParts 81 = .ok (.aload_n 0, 1) := by decide +kernel
theorem dX1_findParts_82 : decode cX1_findParts 82 = .ok (.aload_n 0, 1) := by decide +kernel
theorem dX1_findParts_83 : decode cX1_findParts 83 = .ok (.getfield 23, 3) := by decide +kernel
theorem dX1_findParts_86 : decode cX1_findParts 86 = .ok (.iload_n 3, 1) := by decide +kernel
theorem dX1_findParts_87 : decode cX1_findParts 87 = .ok (.iaload, 1) := by decide +kernel
theorem dX1_findParts_88 : decode cX1_findParts 88 = .ok (.iload 4, 2) := by decide +kernel
theorem dX1_findParts_90 : decode cX1_findParts 90 = .ok (.iconst 1, 1) := by decide +kernel
theorem dX1_findParts_91 : decode cX1_findParts 91 = .ok (.isub, 1) := by decide +kernel
theorem dX1_findParts_92 : decode cX1_findParts 92 = .ok (.iload 5, 2) := by decide +kernel
theorem dX1_findParts_94 : decode cX1_findParts 94 = .ok (.iload_n 1, 1) := by decide +kernel
theorem dX1_findParts_95 : decode cX1_findParts 95 = .ok (.invokevirtual 74, 3) := by decide +kernel
theorem dX1_findParts_98 : decode cX1_findParts 98 = .ok (.istore 6, 2) := by decide +kernel
theorem dX1_findParts_100 : decode cX1_findParts 100 = .ok (.aload_n 0, 1) := by decide +kernel
theorem dX1_findParts_101 : decode cX1_findParts 101 = .ok (.iload 6, 2) := by decide +kernel
theorem dX1_findParts_103 : decode cX1_findParts 103 = .ok (.iload 4, 2) := by decide +kernel
theorem dX1_findParts_105 : decode cX1_findParts 105 = .ok (.iconst 1, 1) := by decide +kernel
theorem dX1_findParts_106 : decode cX1_findParts 106 = .ok (.iadd, 1) := by decide +kernel
theorem dX1_findParts_107 : decode cX1_findParts 107 = .ok (.iload 5, 2) := by decide +kernel
theorem dX1_findParts_109 : decode cX1_findParts 109 = .ok (.iload_n 1, 1) := by decide +kernel
theorem dX1_findParts_110 : decode cX1_findParts 110 = .ok (.invokevirtual 74, 3) := by decide +kernel
theorem dX1_findParts_113 : decode cX1_findParts 113 = .ok (.istore 6, 2) := by decide +kernel
theorem dX1_findParts_115 : decode cX1_findParts 115 = .ok (.aload_n 0, 1) := by decide +kernel
theorem dX1_findParts_116 : decode cX1_findParts 116 = .ok (.iload 6, 2) := by decide +kernel
theorem dX1_findParts_118 : decode cX1_findParts 118 = .ok (.iload 4, 2) := by decide +kernel
theorem dX1_findParts_120 : decode cX1_findParts 120 = .ok (.iload 5, 2) := by decide +kernel
theorem dX1_findParts_122 : decode cX1_findParts 122 = .ok (.iconst 1, 1) := by decide +kernel
theorem dX1_findParts_123 : decode cX1_findParts 123 = .ok (.isub, 1) := by decide +kernel
theorem dX1_findParts_124 : decode cX1_findParts 124 = .ok (.iload_n 1, 1) := by decide +kernel
theorem dX1_findParts_125 : decode cX1_findParts 125 = .ok (.invokevirtual 74, 3) := by decide +kernel
theorem dX1_findParts_128 : decode cX1_findParts 128 = .ok (.istore 6, 2) := by decide +kernel
theorem dX1_findParts_130 : decode cX1_findParts 130 = .ok (.aload_n 0, 1) := by decide +kernel
theorem dX1_findParts_131 : decode cX1_findParts 131 = .ok (.iload 6, 2) := by decide +kernel
theorem dX1_findParts_133 : decode cX1_findParts 133 = .ok (.iload 4, 2) := by decide +kernel
theorem dX1_findParts_135 : decode cX1_findParts 135 = .ok (.iload 5, 2) := by decide +kernel
theorem dX1_findParts_137 : decode cX1_findParts 137 = .ok (.iconst 1, 1) := by decide +kernel
theorem dX1_findParts_138 : decode cX1_findParts 138 = .ok (.iadd, 1) := by decide +kernel
theorem dX1_findParts_139 : decode cX1_findParts 139 = .ok (.iload_n 1, 1) := by decide +kernel
theorem dX1_findParts_140 : decode cX1_findParts 140 = .ok (.invokevirtual 74, 3) := by decide +kernel
theorem dX1_findParts_143 : decode cX1_findParts 143 = .ok (.istore 6, 2) := by decide +kernel
theorem dX1_findParts_145 : decode cX1_findParts 145 = .ok (.iload_n 2, 1) := by decide +kernel
theorem dX1_findParts_146 : decode cX1_findParts 146 = .ok (.ifCond .ne 14, 3) := by decide +kernel
theorem dX1_findParts_149 : decode cX1_findParts 149 = .ok (.iload 6, 2) := by decide +kernel
theorem dX1_findParts_151 : decode cX1_findParts 151 = .ok (.aload_n 0, 1) := by decide +kernel
theorem dX1_findParts_152 : decode cX1_findParts 152 = .ok (.getfield 23, 3) := by decide +kernel
theorem dX1_findParts_155 : decode cX1_findParts 155 = .ok (.iload_n 3, 1) := by decide +kernel
theorem dX1_findParts_156 : decode cX1_findParts 156 = .ok (.iaload, 1) := by decide +kernel
theorem dX1_findParts_157 : decode cX1_findParts 157 = .ok (.if_icmp .ge 7, 3) := by decide +kernel
theorem dX1_findParts_160 : decode cX1_findParts 160 = .ok (.iconst 1, 1) := by decide +kernel
theorem dX1_findParts_161 : decode cX1_findParts 161 = .ok (.goto 4, 3) := by decide +kernel
theorem dX1_findParts_164 : decode cX1_findParts 164 = .ok (.iconst 0, 1) := by decide +kernel
theorem dX1_findParts_165 : decode cX1_findParts 165 = .ok (.istore_n 2, 1) := by decide +kernel
theorem dX1_findParts_166 : decode cX1_findParts 166 = .ok (.aload_n 0, 1) := by decide +kernel
theorem dX1_findParts_167 : decode cX1_findParts 167 = .ok (.getfield 23, 3) := by decide +kernel
theorem dX1_findParts_170 : decode cX1_findParts 170 = .ok (.iload_n 3, 1) := by decide +kernel
theorem dX1_findParts_171 : decode cX1_findParts 171 = .ok (.iload 6, 2) := by decide +kernel
theorem dX1_findParts_173 : decode cX1_findParts 173 = .ok (.iastore, 1) := by decide +kernel
theorem dX1_findParts_174 : decode cX1_findParts 174 = .ok (.iinc 3 1, 3) := by decide +kernel
theorem dX1_findParts_177 : decode cX1_findParts 177 = .ok (.goto (-130), 3) := by decide +kernel
theorem dX1_findParts_180 : decode cX1_findParts 180 = .ok (.goto (-141), 3) := by decide +kernel
theorem dX1_findParts_183 : decode cX1_findParts 183 = .ok (.return_, 1) := by decide +kernel
theorem dX1_turnSpecks_0 : decode cX1_turnSpecks 0 = .ok (.aload_n 0, 1) := by decide +kernel
theorem dX1_turnSpecks_1 : decode cX1_turnSpecks 1 = .ok (.iload_n 1, 1) := by decide +kernel
theorem dX1_turnSpecks_2 : decode cX1_turnSpecks 2 = .ok (.invokevirtual 78, 3) := by decide +kernel
theorem dX1_turnSpecks_5 : decode cX1_turnSpecks 5 = .ok (.iconst 0, 1) := by decide +kernel
theorem dX1_turnSpecks_6 : decode cX1_turnSpecks 6 = .ok (.istore_n 3, 1) := by decide +kernel
theorem dX1_turnSpecks_7 : decode cX1_turnSpecks 7 = .ok (.iconst 0, 1) := by decide +kernel
theorem dX1_turnSpecks_8 : decode cX1_turnSpecks 8 = .ok (.istore 4, 2) := by decide +kernel
theorem dX1_turnSpecks_10 : decode cX1_turnSpecks 10 = .ok (.iload 4, 2) := by decide +kernel
theorem dX1_turnSpecks_12 : decode cX1_turnSpecks 12 = .ok (.aload_n 0, 1) := by decide +kernel
theorem dX1_turnSpecks_13 : decode cX1_turnSpecks 13 = .ok (.invokevirtual 40, 3) := by decide +kernel
theorem dX1_turnSpecks_16 : decode cX1_turnSpecks 16 = .ok (.if_icmp .ge 232, 3) := by decide +kernel
theorem dX1_turnSpecks_19 : decode cX1_turnSpecks 19 = .ok (.iconst 0, 1) := by decide +kernel
theorem dX1_turnSpecks_20 : decode cX1_turnSpecks 20 = .ok (.istore 5, 2) := by decide +kernel
theorem dX1_turnSpecks_22 : decode cX1_turnSpecks 22 = .ok (.iconst 0, 1) := by decide +kernel
theorem dX1_turnSpecks_23 : decode cX1_turnSpecks 23 = .ok (.istore 6, 2) := by decide +kernel
theorem dX1_turnSpecks_25 : decode cX1_turnSpecks 25 = .ok (.iconst 0, 1) := by decide +kernel
theorem dX1_turnSpecks_26 : decode cX1_turnSpecks 26 = .ok (.istore 7, 2) := by decide +kernel
theorem dX1_turnSpecks_28 : decode cX1_turnSpecks 28 = .ok (.iload 7, 2) := by decide +kernel
theorem dX1_turnSpecks_30 : decode cX1_turnSpecks 30 = .ok (.aload_n 0, 1) := by decide +kernel
theorem dX1_turnSpecks_31 : decode cX1_turnSpecks 31 = .ok (.invokevirtual 40, 3) := by decide +kernel
theorem dX1_turnSpecks_34 : decode cX1_turnSpecks 34 = .ok (.if_icmp .ge 106, 3) := by decide +kernel
theorem dX1_turnSpecks_37 : decode cX1_turnSpecks 37 = .ok (.aload_n 0, 1) := by decide +kernel
theorem dX1_turnSpecks_38 : decode cX1_turnSpecks 38 = .ok (.getfield 23, 3) := by decide +kernel
theorem dX1_turnSpecks_41 : decode cX1_turnSpecks 41 = .ok (.iload 7, 2) := by decide +kernel
theorem dX1_turnSpecks_43 : decode cX1_turnSpecks 43 = .ok (.iaload, 1) := by decide +kernel
theorem dX1_turnSpecks_44 : decode cX1_turnSpecks 44 = .ok (.iload 4, 2) := by decide +kernel
theorem dX1_turnSpecks_46 : decode cX1_turnSpecks 46 = .ok (.if_icmp .ne 10, 3) := by decide +kernel
theorem dX1_turnSpecks_49 : decode cX1_turnSpecks 49 = .ok (.iload 5, 2) := by decide +kernel
theorem dX1_turnSpecks_51 : decode cX1_turnSpecks 51 = .ok (.iconst 1, 1) := by decide +kernel
theorem dX1_turnSpecks_52 : decode cX1_turnSpecks 52 = .ok (.iadd, 1) := by decide +kernel
theorem dX1_turnSpecks_53 : decode cX1_turnSpecks 53 = .ok (.goto 5, 3) := by decide +kernel
theorem dX1_turnSpecks_56 : decode cX1_turnSpecks 56 = .ok (.iload 5, 2) := by decide +kernel
theorem dX1_turnSpecks_58 : decode cX1_turnSpecks 58 = .ok (.istore 5, 2) := by decide +kernel
theorem dX1_turnSpecks_60 : decode cX1_turnSpecks 60 = .ok (.iload 7, 2) := by decide +kernel
theorem dX1_turnSpecks_62 : decode cX1_turnSpecks 62 = .ok (.aload_n 0, 1) := by decide +kernel
theorem dX1_turnSpecks_63 : decode cX1_turnSpecks 63 = .ok (.getfield 26, 3) := by decide +kernel
theorem dX1_turnSpecks_66 : decode cX1_turnSpecks 66 = .ok (.irem, 1) := by decide +kernel
theorem dX1_turnSpecks_67 : decode cX1_turnSpecks 67 = .ok (.istore 8, 2) := by decide +kernel
theorem dX1_turnSpecks_69 : decode cX1_turnSpecks 69 = .ok (.iload 7, 2) := by decide +kernel
theorem dX1_turnSpecks_71 : decode cX1_turnSpecks 71 = .ok (.aload_n 0, 1) := by decide +kernel
theorem dX1_turnSpecks_72 : decode cX1_turnSpecks 72 = .ok (.getfield 26, 3) := by decide +kernel
theorem dX1_turnSpecks_75 : decode cX1_turnSpecks 75 = .ok (.idiv, 1) := by decide +kernel
theorem dX1_turnSpecks_76 : decode cX1_turnSpecks 76 = .ok (.istore 9, 2) := by decide +kernel
theorem dX1_turnSpecks_78 : decode cX1_turnSpecks 78 = .ok (.iload 6, 2) := by decide +kernel
theorem dX1_turnSpecks_80 : decode cX1_turnSpecks 80 = .ok (.ifCond .ne 47, 3) := by decide +kernel
theorem dX1_turnSpecks_83 : decode cX1_turnSpecks 83 = .ok (.aload_n 0, 1) := by decide +kernel
theorem dX1_turnSpecks_84 : decode cX1_turnSpecks 84 = .ok (.getfield 23, 3) := by decide +kernel
theorem dX1_turnSpecks_87 : decode cX1_turnSpecks 87 = .ok (.iload 7, 2) := by decide +kernel
theorem dX1_turnSpecks_89 : decode cX1_turnSpecks 89 = .ok (.iaload, 1) := by decide +kernel
theorem dX1_turnSpecks_90 : decode cX1_turnSpecks 90 = .ok (.iload 4, 2) := by decide +kernel
theorem dX1_turnSpecks_92 : decode cX1_turnSpecks 92 = .ok (.if_icmp .ne 39, 3) := by decide +kernel
theorem dX1_turnSpecks_95 : decode cX1_turnSpecks 95 = .ok (.iload 8, 2) := by decide +kernel
theorem dX1_turnSpecks_97 : decode cX1_turnSpecks 97 = .ok (.ifCond .eq 30, 3) := by decide +kernel
theorem dX1_turnSpecks_100 : decode cX1_turnSpecks 100 = .ok (.iload 9, 2) := by decide +kernel
theorem dX1_turnSpecks_102 : decode cX1_turnSpecks 102 = .ok (.ifCond .eq 25, 3) := by decide +kernel
theorem dX1_turnSpecks_105 : decode cX1_turnSpecks 105 = .ok (.iload 8, 2) := by decide +kernel
theorem dX1_turnSpecks_107 : decode cX1_turnSpecks 107 = .ok (.aload_n 0, 1) := by decide +kernel
theorem dX1_turnSpecks_108 : decode cX1_turnSpecks 108 = .ok (.getfield 26, 3) := by decide +kernel
theorem dX1_turnSpecks_111 : decode cX1_turnSpecks 111 = .ok (.iconst 1, 1) := by decide +kernel
theorem dX1_turnSpecks_112 : decode cX1_turnSpecks 112 = .ok (.isub, 1) := by decide +kernel
theorem dX1_turnSpecks_113 : decode cX1_turnSpecks 113 = .ok (.if_icmp .eq 14, 3) := by decide +kernel
theorem dX1_turnSpecks_116 : decode cX1_turnSpecks 116 = .ok (.iload 9, 2) := by decide +kernel
theorem dX1_turnSpecks_118 : decode cX1_turnSpecks 118 = .ok (.aload_n 0, 1) := by decide +kernel
theorem dX1_turnSpecks_119 : decode cX1_turnSpecks 119 = .ok (.getfield 30, 3) := by decide +kernel
theorem dX1_turnSpecks_122 : decode cX1_turnSpecks 122 = .ok (.iconst 1, 1) := by decide +kernel
theorem dX1_turnSpecks_123 : decode cX1_turnSpecks 123 = .ok (.isub, 1) := by decide +kernel
theorem dX1_turnSpecks_124 : decode cX1_turnSpecks 124 = .ok (.if_icmp .ne 7, 3) := by decide +kernel
theorem dX1_turnSpecks_127 : decode cX1_turnSpecks 127 = .ok (.iconst 1, 1) := by decide +kernel
theorem dX1_turnSpecks_128 : decode cX1_turnSpecks 128 = .ok (.goto 4, 3) := by decide +kernel
theorem dX1_turnSpecks_131 : decode cX1_turnSpecks 131 = .ok (.iconst 0, 1) := by decide +kernel
theorem dX1_turnSpecks_132 : decode cX1_turnSpecks 132 = .ok (.istore 6, 2) := by decide +kernel
theorem dX1_turnSpecks_134 : decode cX1_turnSpecks 134 = .ok (.iinc 7 1, 3) := by decide +kernel
theorem dX1_turnSpecks_137 : decode cX1_turnSpecks 137 = .ok (.goto (-109), 3) := by decide +kernel
theorem dX1_turnSpecks_140 : decode cX1_turnSpecks 140 = .ok (.iload 5, 2) := by decide +kernel
theorem dX1_turnSpecks_142 : decode cX1_turnSpecks 142 = .ok (.ifCond .le 22, 3) := by decide +kernel
theorem dX1_turnSpecks_145 : decode cX1_turnSpecks 145 = .ok (.iload 5, 2) := by decide +kernel
theorem dX1_turnSpecks_147 : decode cX1_turnSpecks 147 = .ok (.iload_n 2, 1) := by decide +kernel
theorem dX1_turnSpecks_148 : decode cX1_turnSpecks 148 = .ok (.if_icmp .gt 16, 3) := by decide +kernel
theorem dX1_turnSpecks_151 : decode cX1_turnSpecks 151 = .ok (.iload_n 1, 1) := by decide +kernel
theorem dX1_turnSpecks_152 : decode cX1_turnSpecks 152 = .ok (.ifCond .ne 8, 3) := by decide +kernel
theorem dX1_turnSpecks_155 : decode cX1_turnSpecks 155 = .ok (.iload 6, 2) := by decide +kernel
theorem dX1_turnSpecks_157 : decode cX1_turnSpecks 157 = .ok (.ifCond .ne 7, 3) := by decide +kernel
theorem dX1_turnSpecks_160 : decode cX1_turnSpecks 160 = .ok (.iconst 1, 1) := by decide +kernel
theorem dX1_turnSpecks_161 : decode cX1_turnSpecks 161 = .ok (.goto 4, 3) := by decide +kernel
theorem dX1_turnSpecks_164 : decode cX1_turnSpecks 164 = .ok (.iconst 0, 1) := by decide +kernel
theorem dX1_turnSpecks_165 : decode cX1_turnSpecks 165 = .ok (.istore 7, 2) := by decide +kernel
theorem dX1_turnSpecks_167 : decode cX1_turnSpecks 167 = .ok (.iconst 0, 1) := by decide +kernel
theorem dX1_turnSpecks_168 : decode cX1_turnSpecks 168 = .ok (.istore 8, 2) := by decide +kernel
theorem dX1_turnSpecks_170 : decode cX1_turnSpecks 170 = .ok (.iload 8, 2) := by decide +kernel
theorem dX1_turnSpecks_172 : decode cX1_turnSpecks 172 = .ok (.aload_n 0, 1) := by decide +kernel
theorem dX1_turnSpecks_173 : decode cX1_turnSpecks 173 = .ok (.invokevirtual 40, 3) := by decide +kernel
theorem dX1_turnSpecks_176 : decode cX1_turnSpecks 176 = .ok (.if_icmp .ge 52, 3) := by decide +kernel
theorem dX1_turnSpecks_179 : decode cX1_turnSpecks 179 = .ok (.iload 7, 2) := by decide +kernel
theorem dX1_turnSpecks_181 : decode cX1_turnSpecks 181 = .ok (.ifCond .eq 47, 3) := by decide +kernel
theorem dX1_turnSpecks_184 : decode cX1_turnSpecks 184 = .ok (.aload_n 0, 1) := by decide +kernel
theorem dX1_turnSpecks_185 : decode cX1_turnSpecks 185 = .ok (.getfield 13, 3) := by decide +kernel
theorem dX1_turnSpecks_188 : decode cX1_turnSpecks 188 = .ok (.iload 8, 2) := by decide +kernel
theorem dX1_turnSpecks_190 : decode cX1_turnSpecks 190 = .ok (.aload_n 0, 1) := by decide +kernel
theorem dX1_turnSpecks_191 : decode cX1_turnSpecks 191 = .ok (.getfield 23, 3) := by decide +kernel
theorem dX1_turnSpecks_194 : decode cX1_turnSpecks 194 = .ok (.iload 8, 2) := by decide +kernel
theorem dX1_turnSpecks_196 : decode cX1_turnSpecks 196 = .ok (.iaload, 1) := by decide +kernel
theorem dX1_turnSpecks_197 : decode cX1_turnSpecks 197 = .ok (.iload 4, 2) := by decide +kernel
theorem dX1_turnSpecks_199 : decode cX1_turnSpecks 199 = .ok (.if_icmp .ne 15, 3) := by decide +kernel
theorem dX1_turnSpecks_202 : decode cX1_turnSpecks 202 = .ok (.iload_n 1, 1) := by decide +kernel
theorem dX1_turnSpecks_203 : decode cX1_turnSpecks 203 = .ok (.ifCond .ne 7, 3) := by decide +kernel
theorem dX1_turnSpecks_206 : decode cX1_turnSpecks 206 = .ok (.iconst 1, 1) := by decide +kernel
theorem dX1_turnSpecks_207 : decode cX1_turnSpecks 207 = .ok (.goto 14, 3) := by decide +kernel
theorem dX1_turnSpecks_210 : decode cX1_turnSpecks 210 = .ok (.iconst 0, 1) := by decide +kernel
theorem dX1_turnSpecks_211 : decode cX1_turnSpecks 211 = .ok (.goto 10, 3) := by decide +kernel
theorem dX1_turnSpecks_214 : decode cX1_turnSpecks 214 = .ok (.aload_n 0, 1) := by decide +kernel
theorem dX1_turnSpecks_215 : decode cX1_turnSpecks 215 = .ok (.getfield 13, 3) := by decide +kernel
theorem dX1_turnSpecks_218 : decode cX1_turnSpecks 218 = .ok (.iload 8, 2) := by decide +kernel
theorem dX1_turnSpecks_220 : decode cX1_turnSpecks 220 = .ok (.baload, 1) := by decide +kernel
theorem dX1_turnSpecks_221 : decode cX1_turnSpecks 221 = .ok (.bastore, 1) := by decide +kernel
theorem dX1_turnSpecks_222 : decode cX1_turnSpecks 222 = .ok (.iinc 8 1, 3) := by decide +kernel
theorem dX1_turnSpecks_225 : decode cX1_turnSpecks 225 = .ok (.goto (-55), 3) := by decide +kernel
theorem dX1_turnSpecks_228 : decode cX1_turnSpecks 228 = .ok (.iload 7, 2) := by decide +kernel
theorem dX1_turnSpecks_230 : decode cX1_turnSpecks 230 = .ok (.ifCond .eq 10, 3) := by decide +kernel
theorem dX1_turnSpecks_233 : decode cX1_turnSpecks 233 = .ok (.iload_n 3, 1) := by decide +kernel
theorem dX1_turnSpecks_234 : decode cX1_turnSpecks 234 = .ok (.iload 5, 2) := by decide +kernel
theorem dX1_turnSpecks_236 : decode cX1_turnSpecks 236 = .ok (.iadd, 1) := by decide +kernel
theorem dX1_turnSpecks_237 : decode cX1_turnSpecks 237 = .ok (.goto 4, 3) := by decide +kernel
theorem dX1_turnSpecks_240 : decode cX1_turnSpecks 240 = .ok (.iload_n 3, 1) := by decide +kernel
theorem dX1_turnSpecks_241 : decode cX1_turnSpecks 241 = .ok (.istore_n 3, 1) := by decide +kernel
theorem dX1_turnSpecks_242 : decode cX1_turnSpecks 242 = .ok (.iinc 4 1, 3) := by decide +kernel
theorem dX1_turnSpecks_245 : decode cX1_turnSpecks 245 = .ok (.goto (-235), 3) := by decide +kernel
theorem dX1_turnSpecks_248 : decode cX1_turnSpecks 248 = .ok (.iload_n 3, 1) := by decide +kernel
theorem dX1_turnSpecks_249 : decode cX1_turnSpecks 249 = .ok (.ireturn, 1) := by decide +kernel
theorem dX1_clean_0 : decode cX1_clean 0 = .ok (.aload_n 0, 1) := by decide +kernel
theorem dX1_clean_1 : decode cX1_clean 1 = .ok (.iload_n 1, 1) := by decide +kernel
theorem dX1_clean_2 : decode cX1_clean 2 = .ok (.ifCond .lt 14, 3) := by decide +kernel
theorem dX1_clean_5 : decode cX1_clean 5 = .ok (.iload_n 1, 1) := by decide +kernel
theorem dX1_clean_6 : decode cX1_clean 6 = .ok (.sipush 256, 3) := by decide +kernel
theorem dX1_clean_9 : decode cX1_clean 9 = .ok (.if_icmp .gt 7, 3) := by decide +kernel
theorem dX1_clean_12 : decode cX1_clean 12 = .ok (.iconst 0, 1) := by decide +kernel
theorem dX1_clean_13 : decode cX1_clean 13 = .ok (.goto 4, 3) := by decide +kernel
theorem dX1_clean_16 : decode cX1_clean 16 = .ok (.iconst 1, 1) := by decide +kernel
theorem dX1_clean_17 : decode cX1_clean 17 = .ok (.putfield 33, 3) := by decide +kernel
theorem dX1_clean_20 : decode cX1_clean 20 = .ok (.aload_n 0, 1) := by decide +kernel
theorem dX1_clean_21 : decode cX1_clean 21 = .ok (.getfield 33, 3) := by decide +kernel
theorem dX1_clean_24 : decode cX1_clean 24 = .ok (.ifCond .le 5, 3) := by decide +kernel
theorem dX1_clean_27 : decode cX1_clean 27 = .ok (.iconst 0, 1) := by decide +kernel
theorem dX1_clean_28 : decode cX1_clean 28 = .ok (.ireturn, 1) := by decide +kernel
theorem dX1_clean_29 : decode cX1_clean 29 = .ok (.aload_n 0, 1) := by decide +kernel
theorem dX1_clean_30 : decode cX1_clean 30 = .ok (.iconst 1, 1) := by decide +kernel
theorem dX1_clean_31 : decode cX1_clean 31 = .ok (.iload_n 1, 1) := by decide +kernel
theorem dX1_clean_32 : decode cX1_clean 32 = .ok (.invokevirtual 82, 3) := by decide +kernel
theorem dX1_clean_35 : decode cX1_clean 35 = .ok (.istore_n 2, 1) := by decide +kernel
theorem dX1_clean_36 : decode cX1_clean 36 = .ok (.iload_n 2, 1) := by decide +kernel
theorem dX1_clean_37 : decode cX1_clean 37 = .ok (.aload_n 0, 1) := by decide +kernel
theorem dX1_clean_38 : decode cX1_clean 38 = .ok (.iconst 0, 1) := by decide +kernel
theorem dX1_clean_39 : decode cX1_clean 39 = .ok (.iload_n 1, 1) := by decide +kernel
theorem dX1_clean_40 : decode cX1_clean 40 = .ok (.invokevirtual 82, 3) := by decide +kernel
theorem dX1_clean_43 : decode cX1_clean 43 = .ok (.iadd, 1) := by decide +kernel
theorem dX1_clean_44 : decode cX1_clean 44 = .ok (.ireturn, 1) := by decide +kernel
theorem dX1_isBlackAt_0 : decode cX1_isBlackAt 0 = .ok (.aload_n 0, 1) := by decide +kernel
theorem dX1_isBlackAt_1 : decode cX1_isBlackAt 1 = .ok (.iload_n 1, 1) := by decide +kernel
theorem dX1_isBlackAt_2 : decode cX1_isBlackAt 2 = .ok (.iload_n 2, 1) := by decide +kernel
theorem dX1_isBlackAt_3 : decode cX1_isBlackAt 3 = .ok (.invokevirtual 36, 3) := by decide +kernel
theorem dX1_isBlackAt_6 : decode cX1_isBlackAt 6 = .ok (.ifCond .eq 23, 3) := by decide +kernel
theorem dX1_isBlackAt_9 : decode cX1_isBlackAt 9 = .ok (.aload_n 0, 1) := by decide +kernel
theorem dX1_isBlackAt_10 : decode cX1_isBlackAt 10 = .ok (.getfield 13, 3) := by decide +kernel
theorem dX1_isBlackAt_13 : decode cX1_isBlackAt 13 = .ok (.aload_n 0, 1) := by decide +kernel
theorem dX1_isBlackAt_14 : decode cX1_isBlackAt 14 = .ok (.getfield 26, 3) := by decide +kernel
theorem dX1_isBlackAt_17 : decode cX1_isBlackAt 17 = .ok (.iload_n 2, 1) := by decide +kernel
theorem dX1_isBlackAt_18 : decode cX1_isBlackAt 18 = .ok (.imul, 1) := by decide +kernel
theorem dX1_isBlackAt_19 : decode cX1_isBlackAt 19 = .ok (.iload_n 1, 1) := by decide +kernel
theorem dX1_isBlackAt_20 : decode cX1_isBlackAt 20 = .ok (.iadd, 1) := by decide +kernel
theorem dX1_isBlackAt_21 : decode cX1_isBlackAt 21 = .ok (.baload, 1) := by decide +kernel
theorem dX1_isBlackAt_22 : decode cX1_isBlackAt 22 = .ok (.ifCond .eq 7, 3) := by decide +kernel
theorem dX1_isBlackAt_25 : decode cX1_isBlackAt 25 = .ok (.iconst 1, 1) := by decide +kernel
theorem dX1_isBlackAt_26 : decode cX1_isBlackAt 26 = .ok (.goto 4, 3) := by decide +kernel
theorem dX1_isBlackAt_29 : decode cX1_isBlackAt 29 = .ok (.iconst 0, 1) := by decide +kernel
theorem dX1_isBlackAt_30 : decode cX1_isBlackAt 30 = .ok (.ireturn, 1) := by decide +kernel
theorem dX1_edges_0 : decode cX1_edges 0 = .ok (.aload_n 0, 1) := by decide +kernel
theorem dX1_edges_1 : decode cX1_edges 1 = .ok (.iconst 0, 1) := by decide +kernel
theorem dX1_edges_2 : decode cX1_edges 2 = .ok (.putfield 33, 3) := by decide +kernel
theorem dX1_edges_5 : decode cX1_edges 5 = .ok (.iconst 0, 1) := by decide +kernel
theorem dX1_edges_6 : decode cX1_edges 6 = .ok (.istore_n 1, 1) := by decide +kernel
theorem dX1_edges_7 : decode cX1_edges 7 = .ok (.iload_n 1, 1) := by decide +kernel
theorem dX1_edges_8 : decode cX1_edges 8 = .ok (.aload_n 0, 1) := by decide +kernel
theorem dX1_edges_9 : decode cX1_edges 9 = .ok (.invokevirtual 40, 3) := by decide +kernel
theorem dX1_edges_12 : decode cX1_edges 12 = .ok (.if_icmp .ge 99, 3) := by decide +kernel
theorem dX1_edges_15 : decode cX1_edges 15 = .ok (.iload_n 1, 1) := by decide +kernel
theorem dX1_edges_16 : decode cX1_edges 16 = .ok (.aload_n 0, 1) := by decide +kernel
theorem dX1_edges_17 : decode cX1_edges 17 = .ok (.getfield 26, 3) := by decide +kernel
theorem dX1_edges_20 : decode cX1_edges 20 = .ok (.irem, 1) := by decide +kernel
theorem dX1_edges_21 : decode cX1_edges 21 = .ok (.istore_n 2, 1) := by decide +kernel
theorem dX1_edges_22 : decode cX1_edges 22 = .ok (.iload_n 1, 1) := by decide +kernel
theorem dX1_edges_23 : decode cX1_edges 23 = .ok (.aload_n 0, 1) := by decide +kernel
theorem dX1_edges_24 : decode cX1_edges 24 = .ok (.getfield 26, 3) := by decide +kernel
theorem dX1_edges_27 : decode cX1_edges 27 = .ok (.idiv, 1) := by decide +kernel
theorem dX1_edges_28 : decode cX1_edges 28 = .ok (.istore_n 3, 1) := by decide +kernel
theorem dX1_edges_29 : decode cX1_edges 29 = .ok (.aload_n 0, 1) := by decide +kernel
theorem dX1_edges_30 : decode cX1_edges 30 = .ok (.iload_n 2, 1) := by decide +kernel
theorem dX1_edges_31 : decode cX1_edges 31 = .ok (.iconst 1, 1) := by decide +kernel
theorem dX1_edges_32 : decode cX1_edges 32 = .ok (.isub, 1) := by decide +kernel
theorem dX1_edges_33 : decode cX1_edges 33 = .ok (.iload_n 3, 1) := by decide +kernel
theorem dX1_edges_34 : decode cX1_edges 34 = .ok (.invokevirtual 86, 3) := by decide +kernel
theorem dX1_edges_37 : decode cX1_edges 37 = .ok (.ifCond .eq 40, 3) := by decide +kernel
theorem dX1_edges_40 : decode cX1_edges 40 = .ok (.aload_n 0, 1) := by decide +kernel
theorem dX1_edges_41 : decode cX1_edges 41 = .ok (.iload_n 2, 1) := by decide +kernel
theorem dX1_edges_42 : decode cX1_edges 42 = .ok (.iconst 1, 1) := by decide +kernel
theorem dX1_edges_43 : decode cX1_edges 43 = .ok (.iadd, 1) := by decide +kernel
theorem dX1_edges_44 : decode cX1_edges 44 = .ok (.iload_n 3, 1) := by decide +kernel
theorem dX1_edges_45 : decode cX1_edges 45 = .ok (.invokevirtual 86, 3) := by decide +kernel
theorem dX1_edges_48 : decode cX1_edges 48 = .ok (.ifCond .eq 29, 3) := by decide +kernel
theorem dX1_edges_51 : decode cX1_edges 51 = .ok (.aload_n 0, 1) := by decide +kernel
theorem dX1_edges_52 : decode cX1_edges 52 = .ok (.iload_n 2, 1) := by decide +kernel
theorem dX1_edges_53 : decode cX1_edges 53 = .ok (.iload_n 3, 1) := by decide +kernel
theorem dX1_edges_54 : decode cX1_edges 54 = .ok (.iconst 1, 1) := by decide +kernel
theorem dX1_edges_55 : decode cX1_edges 55 = .ok (.isub, 1) := by decide +kernel
theorem dX1_edges_56 : decode cX1_edges 56 = .ok (.invokevirtual 86, 3) := by decide +kernel
theorem dX1_edges_59 : decode cX1_edges 59 = .ok (.ifCond .eq 18, 3) := by decide +kernel
theorem dX1_edges_62 : decode cX1_edges 62 = .ok (.aload_n 0, 1) := by decide +kernel
theorem dX1_edges_63 : decode cX1_edges 63 = .ok (.iload_n 2, 1) := by decide +kernel
theorem dX1_edges_64 : decode cX1_edges 64 = .ok (.iload_n 3, 1) := by decide +kernel
theorem dX1_edges_65 : decode cX1_edges 65 = .ok (.iconst 1, 1) := by decide +kernel
theorem dX1_edges_66 : decode cX1_edges 66 = .ok (.iadd, 1) := by decide +kernel
theorem dX1_edges_67 : decode cX1_edges 67 = .ok (.invokevirtual 86, 3) := by decide +kernel
theorem dX1_edges_70 : decode cX1_edges 70 = .ok (.ifCond .eq 7, 3) := by decide +kernel
theorem dX1_edges_73 : decode cX1_edges 73 = .ok (.iconst 1, 1) := by decide +kernel
theorem dX1_edges_74 : decode cX1_edges 74 = .ok (.goto 4, 3) := by decide +kernel
theorem dX1_edges_77 : decode cX1_edges 77 = .ok (.iconst 0, 1) := by decide +kernel
theorem dX1_edges_78 : decode cX1_edges 78 = .ok (.istore 4, 2) := by decide +kernel
theorem dX1_edges_80 : decode cX1_edges 80 = .ok (.aload_n 0, 1) := by decide +kernel
theorem dX1_edges_81 : decode cX1_edges 81 = .ok (.getfield 17, 3) := by decide +kernel
theorem dX1_edges_84 : decode cX1_edges 84 = .ok (.iload_n 1, 1) := by decide +kernel
theorem dX1_edges_85 : decode cX1_edges 85 = .ok (.aload_n 0, 1) := by decide +kernel
theorem dX1_edges_86 : decode cX1_edges 86 = .ok (.getfield 13, 3) := by decide +kernel
theorem dX1_edges_89 : decode cX1_edges 89 = .ok (.iload_n 1, 1) := by decide +kernel
theorem dX1_edges_90 : decode cX1_edges 90 = .ok (.baload, 1) := by decide +kernel
theorem dX1_edges_91 : decode cX1_edges 91 = .ok (.ifCond .eq 12, 3) := by decide +kernel
theorem dX1_edges_94 : decode cX1_edges 94 = .ok (.iload 4, 2) := by decide +kernel
theorem dX1_edges_96 : decode cX1_edges 96 = .ok (.ifCond .ne 7, 3) := by decide +kernel
theorem dX1_edges_99 : decode cX1_edges 99 = .ok (.iconst 1, 1) := by decide +kernel
theorem dX1_edges_100 : decode cX1_edges 100 = .ok (.goto 4, 3) := by decide +kernel
theorem dX1_edges_103 : decode cX1_edges 103 = .ok (.iconst 0, 1) := by decide +kernel
theorem dX1_edges_104 : decode cX1_edges 104 = .ok (.bastore, 1) := by decide +kernel
theorem dX1_edges_105 : decode cX1_edges 105 = .ok (.iinc 1 1, 3) := by decide +kernel
theorem dX1_edges_108 : decode cX1_edges 108 = .ok (.goto (-101), 3) := by decide +kernel
theorem dX1_edges_111 : decode cX1_edges 111 = .ok (.iconst 0, 1) := by decide +kernel
theorem dX1_edges_112 : decode cX1_edges 112 = .ok (.istore_n 1, 1) := by decide +kernel
theorem dX1_edges_113 : decode cX1_edges 113 = .ok (.iload_n 1, 1) := by decide +kernel
theorem dX1_edges_114 : decode cX1_edges 114 = .ok (.aload_n 0, 1) := by decide +kernel
theorem dX1_edges_115 : decode cX1_edges 115 = .ok (.invokevirtual 40, 3) := by decide +kernel
theorem dX1_edges_118 : decode cX1_edges 118 = .ok (.if_icmp .ge 21, 3) := by decide +kernel
theorem dX1_edges_121 : decode cX1_edges 121 = .ok (.aload_n 0, 1) := by decide +kernel
theorem dX1_edges_122 : decode cX1_edges 122 = .ok (.getfield 13, 3) := by decide +kernel
theorem dX1_edges_125 : decode cX1_edges 125 = .ok (.iload_n 1, 1) := by decide +kernel
theorem dX1_edges_126 : decode cX1_edges 126 = .ok (.aload_n 0, 1) := by decide +kernel
theorem dX1_edges_127 : decode cX1_edges 127 = .ok (.getfield 17, 3) := by decide +kernel
theorem dX1_edges_130 : decode cX1_edges 130 = .ok (.iload_n 1, 1) := by decide +kernel
theorem dX1_edges_131 : decode cX1_edges 131 = .ok (.baload, 1) := by decide +kernel
theorem dX1_edges_132 : decode cX1_edges 132 = .ok (.bastore, 1) := by decide +kernel
theorem dX1_edges_133 : decode cX1_edges 133 = .ok (.iinc 1 1, 3) := by decide +kernel
theorem dX1_edges_136 : decode cX1_edges 136 = .ok (.goto (-23), 3) := by decide +kernel
theorem dX1_edges_139 : decode cX1_edges 139 = .ok (.aload_n 0, 1) := by decide +kernel
theorem dX1_edges_140 : decode cX1_edges 140 = .ok (.invokevirtual 52, 3) := by decide +kernel
theorem dX1_edges_143 : decode cX1_edges 143 = .ok (.ireturn, 1) := by decide +kernel
theorem dX1_invert_0 : decode cX1_invert 0 = .ok (.aload_n 0, 1) := by decide +kernel
theorem dX1_invert_1 : decode cX1_invert 1 = .ok (.iconst 0, 1) := by decide +kernel
theorem dX1_invert_2 : decode cX1_invert 2 = .ok (.putfield 33, 3) := by decide +kernel
theorem dX1_invert_5 : decode cX1_invert 5 = .ok (.iconst 0, 1) := by decide +kernel
theorem dX1_invert_6 : decode cX1_invert 6 = .ok (.istore_n 1, 1) := by decide +kernel
theorem dX1_invert_7 : decode cX1_invert 7 = .ok (.iload_n 1, 1) := by decide +kernel
theorem dX1_invert_8 : decode cX1_invert 8 = .ok (.aload_n 0, 1) := by decide +kernel
theorem dX1_invert_9 : decode cX1_invert 9 = .ok (.invokevirtual 40, 3) := by decide +kernel
theorem dX1_invert_12 : decode cX1_invert 12 = .ok (.if_icmp .ge 29, 3) := by decide +kernel
theorem dX1_invert_15 : decode cX1_invert 15 = .ok (.aload_n 0, 1) := by decide +kernel
theorem dX1_invert_16 : decode cX1_invert 16 = .ok (.getfield 13, 3) := by decide +kernel
theorem dX1_invert_19 : decode cX1_invert 19 = .ok (.iload_n 1, 1) := by decide +kernel
theorem dX1_invert_20 : decode cX1_invert 20 = .ok (.aload_n 0, 1) := by decide +kernel
theorem dX1_invert_21 : decode cX1_invert 21 = .ok (.getfield 13, 3) := by decide +kernel
theorem dX1_invert_24 : decode cX1_invert 24 = .ok (.iload_n 1, 1) := by decide +kernel
theorem dX1_invert_25 : decode cX1_invert 25 = .ok (.baload, 1) := by decide +kernel
theorem dX1_invert_26 : decode cX1_invert 26 = .ok (.ifCond .ne 7, 3) := by decide +kernel
theorem dX1_invert_29 : decode cX1_invert 29 = .ok (.iconst 1, 1) := by decide +kernel
theorem dX1_invert_30 : decode cX1_invert 30 = .ok (.goto 4, 3) := by decide +kernel
theorem dX1_invert_33 : decode cX1_invert 33 = .ok (.iconst 0, 1) := by decide +kernel
theorem dX1_invert_34 : decode cX1_invert 34 = .ok (.bastore, 1) := by decide +kernel
theorem dX1_invert_35 : decode cX1_invert 35 = .ok (.iinc 1 1, 3) := by decide +kernel
theorem dX1_invert_38 : decode cX1_invert 38 = .ok (.goto (-31), 3) := by decide +kernel
theorem dX1_invert_41 : decode cX1_invert 41 = .ok (.aload_n 0, 1) := by decide +kernel
theorem dX1_invert_42 : decode cX1_invert 42 = .ok (.invokevirtual 52, 3) := by decide +kernel
theorem dX1_invert_45 : decode cX1_invert 45 = .ok (.ireturn, 1) := by decide +kernel
theorem dX1_at_0 : decode cX1_at 0 = .ok (.aload_n 0, 1) := by decide +kernel
theorem dX1_at_1 : decode cX1_at 1 = .ok (.aload_n 0, 1) := by decide +kernel
theorem dX1_at_2 : decode cX1_at 2 = .ok (.iload_n 1, 1) := by decide +kernel
theorem dX1_at_3 : decode cX1_at 3 = .ok (.iload_n 2, 1) := by decide +kernel
theorem dX1_at_4 : decode cX1_at 4 = .ok (.invokevirtual 36, 3) := by decide +kernel
theorem dX1_at_7 : decode cX1_at 7 = .ok (.ifCond .eq 7, 3) := by decide +kernel
theorem dX1_at_10 : decode cX1_at 10 = .ok (.iconst 0, 1) := by decide +kernel
theorem dX1_at_11 : decode cX1_at 11 = .ok (.goto 4, 3) := by decide +kernel
theorem dX1_at_14 : decode cX1_at 14 = .ok (.iconst 1, 1) := by decide +kernel
theorem dX1_at_15 : decode cX1_at 15 = .ok (.putfield 33, 3) := by decide +kernel
theorem dX1_at_18 : decode cX1_at 18 = .ok (.aload_n 0, 1) := by decide +kernel
theorem dX1_at_19 : decode cX1_at 19 = .ok (.getfield 33, 3) := by decide +kernel
theorem dX1_at_22 : decode cX1_at 22 = .ok (.ifCond .ne 23, 3) := by decide +kernel
theorem dX1_at_25 : decode cX1_at 25 = .ok (.aload_n 0, 1) := by decide +kernel
theorem dX1_at_26 : decode cX1_at 26 = .ok (.getfield 13, 3) := by decide +kernel
theorem dX1_at_29 : decode cX1_at 29 = .ok (.aload_n 0, 1) := by decide +kernel
theorem dX1_at_30 : decode cX1_at 30 = .ok (.getfield 26, 3) := by decide +kernel
theorem dX1_at_33 : decode cX1_at 33 = .ok (.iload_n 2, 1) := by decide +kernel
theorem dX1_at_34 : decode cX1_at 34 = .ok (.imul, 1) := by decide +kernel
theorem dX1_at_35 : decode cX1_at 35 = .ok (.iload_n 1, 1) := by decide +kernel
theorem dX1_at_36 : decode cX1_at 36 = .ok (.iadd, 1) := by decide +kernel
theorem dX1_at_37 : decode cX1_at 37 = .ok (.baload, 1) := by decide +kernel
theorem dX1_at_38 : decode cX1_at 38 = .ok (.ifCond .eq 7, 3) := by decide +kernel
theorem dX1_at_41 : decode cX1_at 41 = .ok (.iconst 1, 1) := by decide +kernel
theorem dX1_at_42 : decode cX1_at 42 = .ok (.goto 4, 3) := by decide +kernel
theorem dX1_at_45 : decode cX1_at 45 = .ok (.iconst 0, 1) := by decide +kernel
theorem dX1_at_46 : decode cX1_at 46 = .ok (.ireturn, 1) := by decide +kernel
theorem dX1_sum_0 : decode cX1_sum 0 = .ok (.iload_n 3, 1) := by decide +kernel
theorem dX1_sum_1 : decode cX1_sum 1 = .ok (.ifCond .lt 49, 3) := by decide +kernel
theorem dX1_sum_4 : decode cX1_sum 4 = .ok (.iload 4, 2) := by decide +kernel
theorem dX1_sum_6 : decode cX1_sum 6 = .ok (.ifCond .lt 44, 3) := by decide +kernel
theorem dX1_sum_9 : decode cX1_sum 9 = .ok (.iload_n 1, 1) := by decide +kernel
theorem dX1_sum_10 : decode cX1_sum 10 = .ok (.ifCond .lt 40, 3) := by decide +kernel
theorem dX1_sum_13 : decode cX1_sum 13 = .ok (.iload_n 2, 1) := by decide +kernel
theorem dX1_sum_14 : decode cX1_sum 14 = .ok (.ifCond .lt 36, 3) := by decide +kernel
theorem dX1_sum_17 : decode cX1_sum 17 = .ok (.iload_n 1, 1) := by decide +kernel
theorem dX1_sum_18 : decode cX1_sum 18 = .ok (.i2l, 1) := by decide +kernel
theorem dX1_sum_19 : decode cX1_sum 19 = .ok (.iload_n 3, 1) := by decide +kernel
theorem dX1_sum_20 : decode cX1_sum 20 = .ok (.i2l, 1) := by decide +kernel
theorem dX1_sum_21 : decode cX1_sum 21 = .ok (.ladd, 1) := by decide +kernel
theorem dX1_sum_22 : decode cX1_sum 22 = .ok (.aload_n 0, 1) := by decide +kernel
theorem dX1_sum_23 : decode cX1_sum 23 = .ok (.getfield 26, 3) := by decide +kernel
theorem dX1_sum_26 : decode cX1_sum 26 = .ok (.i2l, 1) := by decide +kernel
theorem dX1_sum_27 : decode cX1_sum 27 = .ok (.lcmp, 1) := by decide +kernel
theorem dX1_sum_28 : decode cX1_sum 28 = .ok (.ifCond .gt 22, 3) := by decide +kernel
theorem dX1_sum_31 : decode cX1_sum 31 = .ok (.iload_n 2, 1) := by decide +kernel
theorem dX1_sum_32 : decode cX1_sum 32 = .ok (.i2l, 1) := by decide +kernel
theorem dX1_sum_33 : decode cX1_sum 33 = .ok (.iload 4, 2) := by decide +kernel
theorem dX1_sum_35 : decode cX1_sum 35 = .ok (.i2l, 1) := by decide +kernel
theorem dX1_sum_36 : decode cX1_sum 36 = .ok (.ladd, 1) := by decide +kernel
theorem dX1_sum_37 : decode cX1_sum 37 = .ok (.aload_n 0, 1) := by decide +kernel
theorem dX1_sum_38 : decode cX1_sum 38 = .ok (.getfield 30, 3) := by decide +kernel
theorem dX1_sum_41 : decode cX1_sum 41 = .ok (.i2l, 1) := by decide +kernel
theorem dX1_sum_42 : decode cX1_sum 42 = .ok (.lcmp, 1) := by decide +kernel
theorem dX1_sum_43 : decode cX1_sum 43 = .ok (.ifCond .gt 7, 3) := by decide +kernel
theorem dX1_sum_46 : decode cX1_sum 46 = .ok (.iconst 1, 1) := by decide +kernel
theorem dX1_sum_47 : decode cX1_sum 47 = .ok (.goto 4, 3) := by decide +kernel
theorem dX1_sum_50 : decode cX1_sum 50 = .ok (.iconst 0, 1) := by decide +kernel
theorem dX1_sum_51 : decode cX1_sum 51 = .ok (.istore 6, 2) := by decide +kernel
theorem dX1_sum_53 : decode cX1_sum 53 = .ok (.aload_n 0, 1) := by decide +kernel
theorem dX1_sum_54 : decode cX1_sum 54 = .ok (.iload 6, 2) := by decide +kernel
theorem dX1_sum_56 : decode cX1_sum 56 = .ok (.ifCond .eq 7, 3) := by decide +kernel
theorem dX1_sum_59 : decode cX1_sum 59 = .ok (.iconst 0, 1) := by decide +kernel
theorem dX1_sum_60 : decode cX1_sum 60 = .ok (.goto 4, 3) := by decide +kernel
theorem dX1_sum_63 : decode cX1_sum 63 = .ok (.iconst 1, 1) := by decide +kernel
theorem dX1_sum_64 : decode cX1_sum 64 = .ok (.putfield 33, 3) := by decide +kernel
theorem dX1_sum_67 : decode cX1_sum 67 = .ok (.lconst 0, 1) := by decide +kernel
theorem dX1_sum_68 : decode cX1_sum 68 = .ok (.lstore 7, 2) := by decide +kernel
theorem dX1_sum_70 : decode cX1_sum 70 = .ok (.iconst 0, 1) := by decide +kernel
theorem dX1_sum_71 : decode cX1_sum 71 = .ok (.istore 9, 2) := by decide +kernel
theorem dX1_sum_73 : decode cX1_sum 73 = .ok (.iload 9, 2) := by decide +kernel
theorem dX1_sum_75 : decode cX1_sum 75 = .ok (.aload_n 0, 1) := by decide +kernel
theorem dX1_sum_76 : decode cX1_sum 76 = .ok (.invokevirtual 40, 3) := by decide +kernel
theorem dX1_sum_79 : decode cX1_sum 79 = .ok (.if_icmp .ge 114, 3) := by decide +kernel
theorem dX1_sum_82 : decode cX1_sum 82 = .ok (.iload 6, 2) := by decide +kernel
theorem dX1_sum_84 : decode cX1_sum 84 = .ok (.ifCond .eq 109, 3) := by decide +kernel
theorem dX1_sum_87 : decode cX1_sum 87 = .ok (.iload 9, 2) := by decide +kernel
theorem dX1_sum_89 : decode cX1_sum 89 = .ok (.aload_n 0, 1) := by decide +kernel
theorem dX1_sum_90 : decode cX1_sum 90 = .ok (.getfield 26, 3) := by decide +kernel
theorem dX1_sum_93 : decode cX1_sum 93 = .ok (.irem, 1) := by decide +kernel
theorem dX1_sum_94 : decode cX1_sum 94 = .ok (.istore 10, 2) := by decide +kernel
theorem dX1_sum_96 : decode cX1_sum 96 = .ok (.iload 9, 2) := by decide +kernel
theorem dX1_sum_98 : decode cX1_sum 98 = .ok (.aload_n 0, 1) := by decide +kernel
theorem dX1_sum_99 : decode cX1_sum 99 = .ok (.getfield 26, 3) := by decide +kernel
theorem dX1_sum_102 : decode cX1_sum 102 = .ok (.idiv, 1) := by decide +kernel
theorem dX1_sum_103 : decode cX1_sum 103 = .ok (.istore 11, 2) := by decide +kernel
theorem dX1_sum_105 : decode cX1_sum 105 = .ok (.iload 10, 2) := by decide +kernel
theorem dX1_sum_107 : decode cX1_sum 107 = .ok (.iload_n 1, 1) := by decide +kernel
theorem dX1_sum_108 : decode cX1_sum 108 = .ok (.if_icmp .lt 30, 3) := by decide +kernel
theorem dX1_sum_111 : decode cX1_sum 111 = .ok (.iload 10, 2) := by decide +kernel
theorem dX1_sum_113 : decode cX1_sum 113 = .ok (.iload_n 1, 1) := by decide +kernel
theorem dX1_sum_114 : decode cX1_sum 114 = .ok (.iload_n 3, 1) := by decide +kernel
theorem dX1_sum_115 : decode cX1_sum 115 = .ok (.iadd, 1) := by decide +kernel
theorem dX1_sum_116 : decode cX1_sum 116 = .ok (.if_icmp .ge 22, 3) := by decide +kernel
theorem dX1_sum_119 : decode cX1_sum 119 = .ok (.iload 11, 2) := by decide +kernel
theorem dX1_sum_121 : decode cX1_sum 121 = .ok (.iload_n 2, 1) := by decide +kernel
theorem dX1_sum_122 : decode cX1_sum 122 = .ok (.if_icmp .lt 16, 3) := by decide +kernel
theorem dX1_sum_125 : decode cX1_sum 125 = .ok (.iload 11, 2) := by decide +kernel
theorem dX1_sum_127 : decode cX1_sum 127 = .ok (.iload_n 2, 1) := by decide +kernel
theorem dX1_sum_128 : decode cX1_sum 128 = .ok (.iload 4, 2) := by decide +kernel
theorem dX1_sum_130 : decode cX1_sum 130 = .ok (.iadd, 1) := by decide +kernel
theorem dX1_sum_131 : decode cX1_sum 131 = .ok (.if_icmp .ge 7, 3) := by decide +kernel
theorem dX1_sum_134 : decode cX1_sum 134 = .ok (.iconst 1, 1) := by decide +kernel
theorem dX1_sum_135 : decode cX1_sum 135 = .ok (.goto 4, 3) := by decide +kernel
theorem dX1_sum_138 : decode cX1_sum 138 = .ok (.iconst 0, 1) := by decide +kernel
theorem dX1_sum_139 : decode cX1_sum 139 = .ok (.istore 12, 2) := by decide +kernel
theorem dX1_sum_141 : decode cX1_sum 141 = .ok (.iload 12, 2) := by decide +kernel
theorem dX1_sum_143 : decode cX1_sum 143 = .ok (.ifCond .eq 40, 3) := by decide +kernel
theorem dX1_sum_146 : decode cX1_sum 146 = .ok (.lload 7, 2) := by decide +kernel
theorem dX1_sum_148 : decode cX1_sum 148 = .ok (.iload 5, 2) := by decide +kernel
theorem dX1_sum_150 : decode cX1_sum 150 = .ok (.ifCond .eq 21, 3) := by decide +kernel
theorem dX1_sum_153 : decode cX1_sum 153 = .ok (.aload_n 0, 1) := by decide +kernel
theorem dX1_sum_154 : decode cX1_sum 154 = .ok (.getfield 7, 3) := by decide +kernel
theorem dX1_sum_157 : decode cX1_sum 157 = .ok (.iload 9, 2) := by decide +kernel
theorem dX1_sum_159 : decode cX1_sum 159 = .ok (.iaload, 1) := by decide +kernel
theorem dX1_sum_160 : decode cX1_sum 160 = .ok (.aload_n 0, 1) := by decide +kernel
theorem dX1_sum_161 : decode cX1_sum 161 = .ok (.getfield 7, 3) := by decide +kernel
theorem dX1_sum_164 : decode cX1_sum 164 = .ok (.iload 9, 2) := by decide +kernel
theorem dX1_sum_166 : decode cX1_sum 166 = .ok (.iaload, 1) := by decide +kernel
theorem dX1_sum_167 : decode cX1_sum 167 = .ok (.imul, 1) := by decide +kernel
theorem dX1_sum_168 : decode cX1_sum 168 = .ok (.goto 10, 3) := by decide +kernel
theorem dX1_sum_171 : decode cX1_sum 171 = .ok (.aload_n 0, 1) := by decide +kernel
theorem dX1_sum_172 : decode cX1_sum 172 = .ok (.getfield 7, 3) := by decide +kernel
theorem dX1_sum_175 : decode cX1_sum 175 = .ok (.iload 9, 2) := by decide +kernel
theorem dX1_sum_177 : decode cX1_sum 177 = .ok (.iaload, 1) := by decide +kernel
theorem dX1_sum_178 : decode cX1_sum 178 = .ok (.i2l, 1) := by decide +kernel
theorem dX1_sum_179 : decode cX1_sum 179 = .ok (.ladd, 1) := by decide +kernel
theorem dX1_sum_180 : decode cX1_sum 180 = .ok (.goto 5, 3) := by decide +kernel
theorem dX1_sum_183 : decode cX1_sum 183 = .ok (.lload 7, 2) := by decide +kernel
theorem dX1_sum_185 : decode cX1_sum 185 = .ok (.lstore 7, 2) := by decide +kernel
theorem dX1_sum_187 : decode cX1_sum 187 = .ok (.iinc 9 1, 3) := by decide +kernel
theorem dX1_sum_190 : decode cX1_sum 190 = .ok (.goto (-117), 3) := by decide +kernel
theorem dX1_sum_193 : decode cX1_sum 193 = .ok (.lload 7, 2) := by decide +kernel
theorem dX1_sum_195 : decode cX1_sum 195 = .ok (.lreturn, 1) := by decide +kernel
theorem dX1_parts_0 : decode cX1_parts 0 = .ok (.aload_n 0, 1) := by decide +kernel
theorem dX1_parts_1 : decode cX1_parts 1 = .ok (.iconst 1, 1) := by decide +kernel
theorem dX1_parts_2 : decode cX1_parts 2 = .ok (.invokevirtual 78, 3) := by decide +kernel
theorem dX1_parts_5 : decode cX1_parts 5 = .ok (.iconst 0, 1) := by decide +kernel
theorem dX1_parts_6 : decode cX1_parts 6 = .ok (.istore_n 1, 1) := by decide +kernel
theorem dX1_parts_7 : decode cX1_parts 7 = .ok (.iconst 0, 1) := by decide +kernel
theorem dX1_parts_8 : decode cX1_parts 8 = .ok (.istore_n 2, 1) := by decide +kernel
theorem dX1_parts_9 : decode cX1_parts 9 = .ok (.iload_n 2, 1) := by decide +kernel
theorem dX1_parts_10 : decode cX1_parts 10 = .ok (.aload_n 0, 1) := by decide +kernel
theorem dX1_parts_11 : decode cX1_parts 11 = .ok (.invokevirtual 40, 3) := by decide +kernel
theorem dX1_parts_14 : decode cX1_parts 14 = .ok (.if_icmp .ge 27, 3) := by decide +kernel
theorem dX1_parts_17 : decode cX1_parts 17 = .ok (.aload_n 0, 1) := by decide +kernel
theorem dX1_parts_18 : decode cX1_parts 18 = .ok (.getfield 23, 3) := by decide +kernel
theorem dX1_parts_21 : decode cX1_parts 21 = .ok (.iload_n 2, 1) := by decide +kernel
theorem dX1_parts_22 : decode cX1_parts 22 = .ok (.iaload, 1) := by decide +kernel
theorem dX1_parts_23 : decode cX1_parts 23 = .ok (.iload_n 2, 1) := by decide +kernel
theorem dX1_parts_24 : decode cX1_parts 24 = .ok (.if_icmp .ne 9, 3) := by decide +kernel
theorem dX1_parts_27 : decode cX1_parts 27 = .ok (.iload_n 1, 1) := by decide +kernel
theorem dX1_parts_28 : decode cX1_parts 28 = .ok (.iconst 1, 1) := by decide +kernel
theorem dX1_parts_29 : decode cX1_parts 29 = .ok (.iadd, 1) := by decide +kernel
theorem dX1_parts_30 : decode cX1_parts 30 = .ok (.goto 4, 3) := by decide +kernel
theorem dX1_parts_33 : decode cX1_parts 33 = .ok (.iload_n 1, 1) := by decide +kernel
theorem dX1_parts_34 : decode cX1_parts 34 = .ok (.istore_n 1, 1) := by decide +kernel
theorem dX1_parts_35 : decode cX1_parts 35 = .ok (.iinc 2 1, 3) := by decide +kernel
theorem dX1_parts_38 : decode cX1_parts 38 = .ok (.goto (-29), 3) := by decide +kernel
theorem dX1_parts_41 : decode cX1_parts 41 = .ok (.iload_n 1, 1) := by decide +kernel
theorem dX1_parts_42 : decode cX1_parts 42 = .ok (.ireturn, 1) := by decide +kernel
theorem dX1_different_0 : decode cX1_different 0 = .ok (.iconst 0, 1) := by decide +kernel
theorem dX1_different_1 : decode cX1_different 1 = .ok (.istore_n 1, 1) := by decide +kernel
theorem dX1_different_2 : decode cX1_different 2 = .ok (.iconst 0, 1) := by decide +kernel
theorem dX1_different_3 : decode cX1_different 3 = .ok (.istore_n 2, 1) := by decide +kernel
theorem dX1_different_4 : decode cX1_different 4 = .ok (.iload_n 2, 1) := by decide +kernel
theorem dX1_different_5 : decode cX1_different 5 = .ok (.aload_n 0, 1) := by decide +kernel
theorem dX1_different_6 : decode cX1_different 6 = .ok (.invokevirtual 40, 3) := by decide +kernel
theorem dX1_different_9 : decode cX1_different 9 = .ok (.if_icmp .ge 64, 3) := by decide +kernel
theorem dX1_different_12 : decode cX1_different 12 = .ok (.iconst 1, 1) := by decide +kernel
theorem dX1_different_13 : decode cX1_different 13 = .ok (.istore_n 3, 1) := by decide +kernel
theorem dX1_different_14 : decode cX1_different 14 = .ok (.iconst 0, 1) := by decide +kernel
theorem dX1_different_15 : decode cX1_different 15 = .ok (.istore 4, 2) := by decide +kernel
theorem dX1_different_17 : decode cX1_different 17 = .ok (.iload 4, 2) := by decide +kernel
theorem dX1_different_19 : decode cX1_different 19 = .ok (.iload_n 2, 1) := by decide +kernel
theorem dX1_different_20 : decode cX1_different 20 = .ok (.if_icmp .ge 35, 3) := by decide +kernel
theorem dX1_different_23 : decode cX1_different 23 = .ok (.iload_n 3, 1) := by decide +kernel
theorem dX1_different_24 : decode cX1_different 24 = .ok (.ifCond .eq 23, 3) := by decide +kernel
theorem dX1_different_27 : decode cX1_different 27 = .ok (.aload_n 0, 1) := by decide +kernel
theorem dX1_different_28 : decode cX1_different 28 = .ok (.getfield 7, 3) := by decide +kernel
theorem dX1_different_31 : decode cX1_different 31 = .ok (.iload 4, 2) := by decide +kernel
theorem dX1_different_33 : decode cX1_different 33 = .ok (.iaload, 1) := by decide +kernel
theorem dX1_different_34 : decode cX1_different 34 = .ok (.aload_n 0, 1) := by decide +kernel
theorem dX1_different_35 : decode cX1_different 35 = .ok (.getfield 7, 3) := by decide +kernel
theorem dX1_different_38 : decode cX1_different 38 = .ok (.iload_n 2, 1) := by decide +kernel
theorem dX1_different_39 : decode cX1_different 39 = .ok (.iaload, 1) := by decide +kernel
theorem dX1_different_40 : decode cX1_different 40 = .ok (.if_icmp .eq 7, 3) := by decide +kernel
theorem dX1_different_43 : decode cX1_different 43 = .ok (.iconst 1, 1) := by decide +kernel
theorem dX1_different_44 : decode cX1_different 44 = .ok (.goto 4, 3) := by decide +kernel
theorem dX1_different_47 : decode cX1_different 47 = .ok (.iconst 0, 1) := by decide +kernel
theorem dX1_different_48 : decode cX1_different 48 = .ok (.istore_n 3, 1) := by decide +kernel
theorem dX1_different_49 : decode cX1_different 49 = .ok (.iinc 4 1, 3) := by decide +kernel
theorem dX1_different_52 : decode cX1_different 52 = .ok (.goto (-35), 3) := by decide +kernel
theorem dX1_different_55 : decode cX1_different 55 = .ok (.iload_n 3, 1) := by decide +kernel
theorem dX1_different_56 : decode cX1_different 56 = .ok (.ifCond .eq 9, 3) := by decide +kernel
theorem dX1_different_59 : decode cX1_different 59 = .ok (.iload_n 1, 1) := by decide +kernel
theorem dX1_different_60 : decode cX1_different 60 = .ok (.iconst 1, 1) := by decide +kernel
theorem dX1_different_61 : decode cX1_different 61 = .ok (.iadd, 1) := by decide +kernel
theorem dX1_different_62 : decode cX1_different 62 = .ok (.goto 4, 3) := by decide +kernel
theorem dX1_different_65 : decode cX1_different 65 = .ok (.iload_n 1, 1) := by decide +kernel
theorem dX1_different_66 : decode cX1_different 66 = .ok (.istore_n 1, 1) := by decide +kernel
theorem dX1_different_67 : decode cX1_different 67 = .ok (.iinc 2 1, 3) := by decide +kernel
theorem dX1_different_70 : decode cX1_different 70 = .ok (.goto (-66), 3) := by decide +kernel
theorem dX1_different_73 : decode cX1_different 73 = .ok (.iload_n 1, 1) := by decide +kernel
theorem dX1_different_74 : decode cX1_different 74 = .ok (.ireturn, 1) := by decide +kernel
theorem dX1_told_0 : decode cX1_told 0 = .ok (.aload_n 0, 1) := by decide +kernel
theorem dX1_told_1 : decode cX1_told 1 = .ok (.iconst 0, 1) := by decide +kernel
theorem dX1_told_2 : decode cX1_told 2 = .ok (.putfield 33, 3) := by decide +kernel
theorem dX1_told_5 : decode cX1_told 5 = .ok (.iload_n 1, 1) := by decide +kernel
theorem dX1_told_6 : decode cX1_told 6 = .ok (.tableswitch 59 0 4 #[34, 39, 44, 49, 54], 34) := by decide +kernel
theorem dX1_told_40 : decode cX1_told 40 = .ok (.aload_n 0, 1) := by decide +kernel
theorem dX1_told_41 : decode cX1_told 41 = .ok (.getfield 26, 3) := by decide +kernel
theorem dX1_told_44 : decode cX1_told 44 = .ok (.ireturn, 1) := by decide +kernel
theorem dX1_told_45 : decode cX1_told 45 = .ok (.aload_n 0, 1) := by decide +kernel
theorem dX1_told_46 : decode cX1_told 46 = .ok (.getfield 30, 3) := by decide +kernel
theorem dX1_told_49 : decode cX1_told 49 = .ok (.ireturn, 1) := by decide +kernel
theorem dX1_told_50 : decode cX1_told 50 = .ok (.aload_n 0, 1) := by decide +kernel
theorem dX1_told_51 : decode cX1_told 51 = .ok (.invokevirtual 52, 3) := by decide +kernel
theorem dX1_told_54 : decode cX1_told 54 = .ok (.ireturn, 1) := by decide +kernel
theorem dX1_told_55 : decode cX1_told 55 = .ok (.aload_n 0, 1) := by decide +kernel
theorem dX1_told_56 : decode cX1_told 56 = .ok (.invokevirtual 89, 3) := by decide +kernel
theorem dX1_told_59 : decode cX1_told 59 = .ok (.ireturn, 1) := by decide +kernel
theorem dX1_told_60 : decode cX1_told 60 = .ok (.aload_n 0, 1) := by decide +kernel
theorem dX1_told_61 : decode cX1_told 61 = .ok (.invokevirtual 92, 3) := by decide +kernel
theorem dX1_told_64 : decode cX1_told 64 = .ok (.ireturn, 1) := by decide +kernel
theorem dX1_told_65 : decode cX1_told 65 = .ok (.iconst (-1), 1) := by decide +kernel
theorem dX1_told_66 : decode cX1_told 66 = .ok (.ireturn, 1) := by decide +kernel
theorem dX1_clear_0 : decode cX1_clear 0 = .ok (.aload_n 0, 1) := by decide +kernel
theorem dX1_clear_1 : decode cX1_clear 1 = .ok (.iconst 0, 1) := by decide +kernel
theorem dX1_clear_2 : decode cX1_clear 2 = .ok (.putfield 33, 3) := by decide +kernel
theorem dX1_clear_5 : decode cX1_clear 5 = .ok (.aload_n 0, 1) := by decide +kernel
theorem dX1_clear_6 : decode cX1_clear 6 = .ok (.lconst 0, 1) := by decide +kernel
theorem dX1_clear_7 : decode cX1_clear 7 = .ok (.putfield 55, 3) := by decide +kernel
theorem dX1_clear_10 : decode cX1_clear 10 = .ok (.iconst 0, 1) := by decide +kernel
theorem dX1_clear_11 : decode cX1_clear 11 = .ok (.istore_n 1, 1) := by decide +kernel
theorem dX1_clear_12 : decode cX1_clear 12 = .ok (.iload_n 1, 1) := by decide +kernel
theorem dX1_clear_13 : decode cX1_clear 13 = .ok (.sipush 256, 3) := by decide +kernel
theorem dX1_clear_16 : decode cX1_clear 16 = .ok (.if_icmp .ge 23, 3) := by decide +kernel
theorem dX1_clear_19 : decode cX1_clear 19 = .ok (.aload_n 0, 1) := by decide +kernel
theorem dX1_clear_20 : decode cX1_clear 20 = .ok (.getfield 7, 3) := by decide +kernel
theorem dX1_clear_23 : decode cX1_clear 23 = .ok (.iload_n 1, 1) := by decide +kernel
theorem dX1_clear_24 : decode cX1_clear 24 = .ok (.iconst 0, 1) := by decide +kernel
theorem dX1_clear_25 : decode cX1_clear 25 = .ok (.iastore, 1) := by decide +kernel
theorem dX1_clear_26 : decode cX1_clear 26 = .ok (.aload_n 0, 1) := by decide +kernel
theorem dX1_clear_27 : decode cX1_clear 27 = .ok (.getfield 13, 3) := by decide +kernel
theorem dX1_clear_30 : decode cX1_clear 30 = .ok (.iload_n 1, 1) := by decide +kernel
theorem dX1_clear_31 : decode cX1_clear 31 = .ok (.iconst 0, 1) := by decide +kernel
theorem dX1_clear_32 : decode cX1_clear 32 = .ok (.bastore, 1) := by decide +kernel
theorem dX1_clear_33 : decode cX1_clear 33 = .ok (.iinc 1 1, 3) := by decide +kernel
theorem dX1_clear_36 : decode cX1_clear 36 = .ok (.goto (-24), 3) := by decide +kernel
theorem dX1_clear_39 : decode cX1_clear 39 = .ok (.return_, 1) := by decide +kernel
theorem dL_cell_0 : decode cL_cell 0 = .ok (.iload_n 1, 1) := by decide +kernel
theorem dL_cell_1 : decode cL_cell 1 = .ok (.aload_n 0, 1) := by decide +kernel
theorem dL_cell_2 : decode cL_cell 2 = .ok (.arraylength, 1) := by decide +kernel
theorem dL_cell_3 : decode cL_cell 3 = .ok (.if_icmp .ge 9, 3) := by decide +kernel
theorem dL_cell_6 : decode cL_cell 6 = .ok (.aload_n 0, 1) := by decide +kernel
theorem dL_cell_7 : decode cL_cell 7 = .ok (.iload_n 1, 1) := by decide +kernel
theorem dL_cell_8 : decode cL_cell 8 = .ok (.iaload, 1) := by decide +kernel
theorem dL_cell_9 : decode cL_cell 9 = .ok (.goto 4, 3) := by decide +kernel
theorem dL_cell_12 : decode cL_cell 12 = .ok (.iconst 0, 1) := by decide +kernel
theorem dL_cell_13 : decode cL_cell 13 = .ok (.ireturn, 1) := by decide +kernel
theorem dL_put_0 : decode cL_put 0 = .ok (.aload 4, 2) := by decide +kernel
theorem dL_put_2 : decode cL_put 2 = .ok (.iconst 0, 1) := by decide +kernel
theorem dL_put_3 : decode cL_put 3 = .ok (.aload_n 0, 1) := by decide +kernel
theorem dL_put_4 : decode cL_put 4 = .ok (.iload_n 1, 1) := by decide +kernel
theorem dL_put_5 : decode cL_put 5 = .ok (.iload_n 2, 1) := by decide +kernel
theorem dL_put_6 : decode cL_put 6 = .ok (.iload_n 3, 1) := by decide +kernel
theorem dL_put_7 : decode cL_put 7 = .ok (.invokevirtual 7, 3) := by decide +kernel
theorem dL_put_10 : decode cL_put 10 = .ok (.i2l, 1) := by decide +kernel
theorem dL_put_11 : decode cL_put 11 = .ok (.lastore, 1) := by decide +kernel
theorem dL_put_12 : decode cL_put 12 = .ok (.goto 11, 3) := by decide +kernel
theorem dL_put_15 : decode cL_put 15 = .ok (.astore 5, 2) := by decide +kernel
theorem dL_put_17 : decode cL_put 17 = .ok (.iconst 1, 1) := by decide +kernel
theorem dL_put_18 : decode cL_put 18 = .ok (.ireturn, 1) := by decide +kernel
theorem dL_put_19 : decode cL_put 19 = .ok (.astore 5, 2) := by decide +kernel
theorem dL_put_21 : decode cL_put 21 = .ok (.iconst 2, 1) := by decide +kernel
theorem dL_put_22 : decode cL_put 22 = .ok (.ireturn, 1) := by decide +kernel
theorem dL_put_23 : decode cL_put 23 = .ok (.iconst 0, 1) := by decide +kernel
theorem dL_put_24 : decode cL_put 24 = .ok (.ireturn, 1) := by decide +kernel
theorem dL_local_0 : decode cL_local 0 = .ok (.aload_n 3, 1) := by decide +kernel
theorem dL_local_1 : decode cL_local 1 = .ok (.iconst 0, 1) := by decide +kernel
theorem dL_local_2 : decode cL_local 2 = .ok (.aload_n 0, 1) := by decide +kernel
theorem dL_local_3 : decode cL_local 3 = .ok (.iload_n 1, 1) := by decide +kernel
theorem dL_local_4 : decode cL_local 4 = .ok (.iload_n 2, 1) := by decide +kernel
theorem dL_local_5 : decode cL_local 5 = .ok (.invokevirtual 17, 3) := by decide +kernel
theorem dL_local_8 : decode cL_local 8 = .ok (.i2l, 1) := by decide +kernel
theorem dL_local_9 : decode cL_local 9 = .ok (.lastore, 1) := by decide +kernel
theorem dL_local_10 : decode cL_local 10 = .ok (.goto 7, 3) := by decide +kernel
theorem dL_local_13 : decode cL_local 13 = .ok (.astore 4, 2) := by decide +kernel
theorem dL_local_15 : decode cL_local 15 = .ok (.iconst 1, 1) := by decide +kernel
theorem dL_local_16 : decode cL_local 16 = .ok (.ireturn, 1) := by decide +kernel
theorem dL_local_17 : decode cL_local 17 = .ok (.iconst 0, 1) := by decide +kernel
theorem dL_local_18 : decode cL_local 18 = .ok (.ireturn, 1) := by decide +kernel
theorem dL_spread_0 : decode cL_spread 0 = .ok (.aload_n 2, 1) := by decide +kernel
theorem dL_spread_1 : decode cL_spread 1 = .ok (.iconst 0, 1) := by decide +kernel
theorem dL_spread_2 : decode cL_spread 2 = .ok (.aload_n 0, 1) := by decide +kernel
theorem dL_spread_3 : decode cL_spread 3 = .ok (.iload_n 1, 1) := by decide +kernel
theorem dL_spread_4 : decode cL_spread 4 = .ok (.invokevirtual 21, 3) := by decide +kernel
theorem dL_spread_7 : decode cL_spread 7 = .ok (.i2l, 1) := by decide +kernel
theorem dL_spread_8 : decode cL_spread 8 = .ok (.lastore, 1) := by decide +kernel
theorem dL_spread_9 : decode cL_spread 9 = .ok (.goto 6, 3) := by decide +kernel
theorem dL_spread_12 : decode cL_spread 12 = .ok (.astore_n 3, 1) := by decide +kernel
theorem dL_spread_13 : decode cL_spread 13 = .ok (.iconst 1, 1) := by decide +kernel
theorem dL_spread_14 : decode cL_spread 14 = .ok (.ireturn, 1) := by decide +kernel
theorem dL_spread_15 : decode cL_spread 15 = .ok (.iconst 0, 1) := by decide +kernel
theorem dL_spread_16 : decode cL_spread 16 = .ok (.ireturn, 1) := by decide +kernel
theorem dL_ordered_0 : decode cL_ordered 0 = .ok (.aload_n 2, 1) := by decide +kernel
theorem dL_ordered_1 : decode cL_ordered 1 = .ok (.iconst 0, 1) := by decide +kernel
theorem dL_ordered_2 : decode cL_ordered 2 = .ok (.aload_n 0, 1) := by decide +kernel
theorem dL_ordered_3 : decode cL_ordered 3 = .ok (.iload_n 1, 1) := by decide +kernel
theorem dL_ordered_4 : decode cL_ordered 4 = .ok (.invokevirtual 25, 3) := by decide +kernel
theorem dL_ordered_7 : decode cL_ordered 7 = .ok (.i2l, 1) := by decide +kernel
theorem dL_ordered_8 : decode cL_ordered 8 = .ok (.lastore, 1) := by decide +kernel
theorem dL_ordered_9 : decode cL_ordered 9 = .ok (.goto 6, 3) := by decide +kernel
theorem dL_ordered_12 : decode cL_ordered 12 = .ok (.astore_n 3, 1) := by decide +kernel
theorem dL_ordered_13 : decode cL_ordered 13 = .ok (.iconst 1, 1) := by decide +kernel
theorem dL_ordered_14 : decode cL_ordered 14 = .ok (.ireturn, 1) := by decide +kernel
theorem dL_ordered_15 : decode cL_ordered 15 = .ok (.iconst 0, 1) := by decide +kernel
theorem dL_ordered_16 : decode cL_ordered 16 = .ok (.ireturn, 1) := by decide +kernel
theorem dL_join_0 : decode cL_join 0 = .ok (.aload_n 3, 1) := by decide +kernel
theorem dL_join_1 : decode cL_join 1 = .ok (.iconst 0, 1) := by decide +kernel
theorem dL_join_2 : decode cL_join 2 = .ok (.aload_n 0, 1) := by decide +kernel
theorem dL_join_3 : decode cL_join 3 = .ok (.iload_n 1, 1) := by decide +kernel
theorem dL_join_4 : decode cL_join 4 = .ok (.iload_n 2, 1) := by decide +kernel
theorem dL_join_5 : decode cL_join 5 = .ok (.invokevirtual 28, 3) := by decide +kernel
theorem dL_join_8 : decode cL_join 8 = .ok (.i2l, 1) := by decide +kernel
theorem dL_join_9 : decode cL_join 9 = .ok (.lastore, 1) := by decide +kernel
theorem dL_join_10 : decode cL_join 10 = .ok (.goto 7, 3) := by decide +kernel
theorem dL_join_13 : decode cL_join 13 = .ok (.astore 4, 2) := by decide +kernel
theorem dL_join_15 : decode cL_join 15 = .ok (.iconst 1, 1) := by decide +kernel
theorem dL_join_16 : decode cL_join 16 = .ok (.ireturn, 1) := by decide +kernel
theorem dL_join_17 : decode cL_join 17 = .ok (.iconst 0, 1) := by decide +kernel
theorem dL_join_18 : decode cL_join 18 = .ok (.ireturn, 1) := by decide +kernel
theorem dL_clean_0 : decode cL_clean 0 = .ok (.aload_n 2, 1) := by decide +kernel
theorem dL_clean_1 : decode cL_clean 1 = .ok (.iconst 0, 1) := by decide +kernel
theorem dL_clean_2 : decode cL_clean 2 = .ok (.aload_n 0, 1) := by decide +kernel
theorem dL_clean_3 : decode cL_clean 3 = .ok (.iload_n 1, 1) := by decide +kernel
theorem dL_clean_4 : decode cL_clean 4 = .ok (.invokevirtual 31, 3) := by decide +kernel
theorem dL_clean_7 : decode cL_clean 7 = .ok (.i2l, 1) := by decide +kernel
theorem dL_clean_8 : decode cL_clean 8 = .ok (.lastore, 1) := by decide +kernel
theorem dL_clean_9 : decode cL_clean 9 = .ok (.goto 6, 3) := by decide +kernel
theorem dL_clean_12 : decode cL_clean 12 = .ok (.astore_n 3, 1) := by decide +kernel
theorem dL_clean_13 : decode cL_clean 13 = .ok (.iconst 1, 1) := by decide +kernel
theorem dL_clean_14 : decode cL_clean 14 = .ok (.ireturn, 1) := by decide +kernel
theorem dL_clean_15 : decode cL_clean 15 = .ok (.iconst 0, 1) := by decide +kernel
theorem dL_clean_16 : decode cL_clean 16 = .ok (.ireturn, 1) := by decide +kernel
theorem dL_at_0 : decode cL_at 0 = .ok (.aload_n 3, 1) := by decide +kernel
theorem dL_at_1 : decode cL_at 1 = .ok (.iconst 0, 1) := by decide +kernel
theorem dL_at_2 : decode cL_at 2 = .ok (.aload_n 0, 1) := by decide +kernel
theorem dL_at_3 : decode cL_at 3 = .ok (.iload_n 1, 1) := by decide +kernel
theorem dL_at_4 : decode cL_at 4 = .ok (.iload_n 2, 1) := by decide +kernel
theorem dL_at_5 : decode cL_at 5 = .ok (.invokevirtual 34, 3) := by decide +kernel
theorem dL_at_8 : decode cL_at 8 = .ok (.ifCond .eq 7, 3) := by decide +kernel
theorem dL_at_11 : decode cL_at 11 = .ok (.lconst 1, 1) := by decide +kernel
theorem dL_at_12 : decode cL_at 12 = .ok (.goto 4, 3) := by decide +kernel
theorem dL_at_15 : decode cL_at 15 = .ok (.lconst 0, 1) := by decide +kernel
theorem dL_at_16 : decode cL_at 16 = .ok (.lastore, 1) := by decide +kernel
theorem dL_at_17 : decode cL_at 17 = .ok (.goto 7, 3) := by decide +kernel
theorem dL_at_20 : decode cL_at 20 = .ok (.astore 4, 2) := by decide +kernel
theorem dL_at_22 : decode cL_at 22 = .ok (.iconst 1, 1) := by decide +kernel
theorem dL_at_23 : decode cL_at 23 = .ok (.ireturn, 1) := by decide +kernel
theorem dL_at_24 : decode cL_at 24 = .ok (.iconst 0, 1) := by decide +kernel
theorem dL_at_25 : decode cL_at 25 = .ok (.ireturn, 1) := by decide +kernel
theorem dL_sum_0 : decode cL_sum 0 = .ok (.aload 6, 2) := by decide +kernel
theorem dL_sum_2 : decode cL_sum 2 = .ok (.iconst 0, 1) := by decide +kernel
theorem dL_sum_3 : decode cL_sum 3 = .ok (.aload_n 0, 1) := by decide +kernel
theorem dL_sum_4 : decode cL_sum 4 = .ok (.iload_n 1, 1) := by decide +kernel
theorem dL_sum_5 : decode cL_sum 5 = .ok (.iload_n 2, 1) := by decide +kernel
theorem dL_sum_6 : decode cL_sum 6 = .ok (.iload_n 3, 1) := by decide +kernel
theorem dL_sum_7 : decode cL_sum 7 = .ok (.iload 4, 2) := by decide +kernel
theorem dL_sum_9 : decode cL_sum 9 = .ok (.iload 5, 2) := by decide +kernel
theorem dL_sum_11 : decode cL_sum 11 = .ok (.invokevirtual 38, 3) := by decide +kernel
theorem dL_sum_14 : decode cL_sum 14 = .ok (.lastore, 1) := by decide +kernel
theorem dL_sum_15 : decode cL_sum 15 = .ok (.goto 7, 3) := by decide +kernel
theorem dL_sum_18 : decode cL_sum 18 = .ok (.astore 7, 2) := by decide +kernel
theorem dL_sum_20 : decode cL_sum 20 = .ok (.iconst 1, 1) := by decide +kernel
theorem dL_sum_21 : decode cL_sum 21 = .ok (.ireturn, 1) := by decide +kernel
theorem dL_sum_22 : decode cL_sum 22 = .ok (.iconst 0, 1) := by decide +kernel
theorem dL_sum_23 : decode cL_sum 23 = .ok (.ireturn, 1) := by decide +kernel
theorem dL_cell__0 : decode cL_cell_ 0 = .ok (.aload 4, 2) := by decide +kernel
theorem dL_cell__2 : decode cL_cell_ 2 = .ok (.iconst 0, 1) := by decide +kernel
theorem dL_cell__3 : decode cL_cell_ 3 = .ok (.aload_n 0, 1) := by decide +kernel
theorem dL_cell__4 : decode cL_cell_ 4 = .ok (.iload_n 1, 1) := by decide +kernel
theorem dL_cell__5 : decode cL_cell_ 5 = .ok (.iload_n 2, 1) := by decide +kernel
theorem dL_cell__6 : decode cL_cell_ 6 = .ok (.iload_n 3, 1) := by decide +kernel
theorem dL_cell__7 : decode cL_cell_ 7 = .ok (.invokevirtual 42, 3) := by decide +kernel
theorem dL_cell__10 : decode cL_cell_ 10 = .ok (.i2l, 1) := by decide +kernel
theorem dL_cell__11 : decode cL_cell_ 11 = .ok (.lastore, 1) := by decide +kernel
theorem dL_cell__12 : decode cL_cell_ 12 = .ok (.goto 7, 3) := by decide +kernel
theorem dL_cell__15 : decode cL_cell_ 15 = .ok (.astore 5, 2) := by decide +kernel
theorem dL_cell__17 : decode cL_cell_ 17 = .ok (.iconst 1, 1) := by decide +kernel
theorem dL_cell__18 : decode cL_cell_ 18 = .ok (.ireturn, 1) := by decide +kernel
theorem dL_cell__19 : decode cL_cell_ 19 = .ok (.iconst 0, 1) := by decide +kernel
theorem dL_cell__20 : decode cL_cell_ 20 = .ok (.ireturn, 1) := by decide +kernel
theorem dL_law_0 : decode cL_law 0 = .ok (.new 8, 3) := by decide +kernel
theorem dL_law_3 : decode cL_law 3 = .ok (.dup, 1) := by decide +kernel
theorem dL_law_4 : decode cL_law 4 = .ok (.aload_n 0, 1) := by decide +kernel
theorem dL_law_5 : decode cL_law 5 = .ok (.iconst 0, 1) := by decide +kernel
theorem dL_law_6 : decode cL_law 6 = .ok (.invokestatic 45, 3) := by decide +kernel
theorem dL_law_9 : decode cL_law 9 = .ok (.aload_n 0, 1) := by decide +kernel
theorem dL_law_10 : decode cL_law 10 = .ok (.iconst 1, 1) := by decide +kernel
theorem dL_law_11 : decode cL_law 11 = .ok (.invokestatic 45, 3) := by decide +kernel
theorem dL_law_14 : decode cL_law 14 = .ok (.invokespecial 50, 3) := by decide +kernel
theorem dL_law_17 : decode cL_law 17 = .ok (.astore_n 1, 1) := by decide +kernel
theorem dL_law_18 : decode cL_law 18 = .ok (.new 53, 3) := by decide +kernel
theorem dL_law_21 : decode cL_law 21 = .ok (.dup, 1) := by decide +kernel
theorem dL_law_22 : decode cL_law 22 = .ok (.aload_n 0, 1) := by decide +kernel
theorem dL_law_23 : decode cL_law 23 = .ok (.iconst 0, 1) := by decide +kernel
theorem dL_law_24 : decode cL_law 24 = .ok (.invokestatic 45, 3) := by decide +kernel
theorem dL_law_27 : decode cL_law 27 = .ok (.aload_n 0, 1) := by decide +kernel
theorem dL_law_28 : decode cL_law 28 = .ok (.iconst 1, 1) := by decide +kernel
theorem dL_law_29 : decode cL_law 29 = .ok (.invokestatic 45, 3) := by decide +kernel
theorem dL_law_32 : decode cL_law 32 = .ok (.invokespecial 55, 3) := by decide +kernel
theorem dL_law_35 : decode cL_law 35 = .ok (.astore_n 2, 1) := by decide +kernel
theorem dL_law_36 : decode cL_law 36 = .ok (.iconst 1, 1) := by decide +kernel
theorem dL_law_37 : decode cL_law 37 = .ok (.newarray .long, 2) := by decide +kernel
theorem dL_law_39 : decode cL_law 39 = .ok (.astore_n 3, 1) := by decide +kernel
theorem dL_law_40 : decode cL_law 40 = .ok (.iconst 2, 1) := by decide +kernel
theorem dL_law_41 : decode cL_law 41 = .ok (.istore 4, 2) := by decide +kernel
theorem dL_law_43 : decode cL_law 43 = .ok (.iload 4, 2) := by decide +kernel
theorem dL_law_45 : decode cL_law 45 = .ok (.aload_n 0, 1) := by decide +kernel
theorem dL_law_46 : decode cL_law 46 = .ok (.arraylength, 1) := by decide +kernel
theorem dL_law_47 : decode cL_law 47 = .ok (.bipush 6, 2) := by decide +kernel
theorem dL_law_49 : decode cL_law 49 = .ok (.isub, 1) := by decide +kernel
theorem dL_law_50 : decode cL_law 50 = .ok (.if_icmp .gt 880, 3) := by decide +kernel
theorem dL_law_53 : decode cL_law 53 = .ok (.aload_n 0, 1) := by decide +kernel
theorem dL_law_54 : decode cL_law 54 = .ok (.iload 4, 2) := by decide +kernel
theorem dL_law_56 : decode cL_law 56 = .ok (.iaload, 1) := by decide +kernel
theorem dL_law_57 : decode cL_law 57 = .ok (.bipush 15, 2) := by decide +kernel
theorem dL_law_59 : decode cL_law 59 = .ok (.iand, 1) := by decide +kernel
theorem dL_law_60 : decode cL_law 60 = .ok (.tableswitch 864 0 15 #[80, 160, 197, 210, 278, 334, 348, 404, 472, 528, 541, 554, 629, 748, 828, 853], 80) := by decide +kernel
theorem dL_law_140 : decode cL_law 140 = .ok (.aload_n 1, 1) := by decide +kernel
theorem dL_law_141 : decode cL_law 141 = .ok (.aload_n 0, 1) := by decide +kernel
theorem dL_law_142 : decode cL_law 142 = .ok (.iload 4, 2) := by decide +kernel
theorem dL_law_144 : decode cL_law 144 = .ok (.iconst 1, 1) := by decide +kernel
theorem dL_law_145 : decode cL_law 145 = .ok (.iadd, 1) := by decide +kernel
theorem dL_law_146 : decode cL_law 146 = .ok (.iaload, 1) := by decide +kernel
theorem dL_law_147 : decode cL_law 147 = .ok (.aload_n 0, 1) := by decide +kernel
theorem dL_law_148 : decode cL_law 148 = .ok (.iload 4, 2) := by decide +kernel
theorem dL_law_150 : decode cL_law 150 = .ok (.iconst 2, 1) := by decide +kernel
theorem dL_law_151 : decode cL_law 151 = .ok (.iadd, 1) := by decide +kernel
theorem dL_law_152 : decode cL_law 152 = .ok (.iaload, 1) := by decide +kernel
theorem dL_law_153 : decode cL_law 153 = .ok (.aload_n 0, 1) := by decide +kernel
theorem dL_law_154 : decode cL_law 154 = .ok (.iload 4, 2) := by decide +kernel
theorem dL_law_156 : decode cL_law 156 = .ok (.iconst 3, 1) := by decide +kernel
theorem dL_law_157 : decode cL_law 157 = .ok (.iadd, 1) := by decide +kernel
theorem dL_law_158 : decode cL_law 158 = .ok (.iaload, 1) := by decide +kernel
theorem dL_law_159 : decode cL_law 159 = .ok (.aload_n 3, 1) := by decide +kernel
theorem dL_law_160 : decode cL_law 160 = .ok (.invokestatic 56, 3) := by decide +kernel
theorem dL_law_163 : decode cL_law 163 = .ok (.istore 5, 2) := by decide +kernel
theorem dL_law_165 : decode cL_law 165 = .ok (.aload_n 2, 1) := by decide +kernel
theorem dL_law_166 : decode cL_law 166 = .ok (.aload_n 0, 1) := by decide +kernel
theorem dL_law_167 : decode cL_law 167 = .ok (.iload 4, 2) := by decide +kernel
theorem dL_law_169 : decode cL_law 169 = .ok (.iconst 1, 1) := by decide +kernel
theorem dL_law_170 : decode cL_law 170 = .ok (.iadd, 1) := by decide +kernel
theorem dL_law_171 : decode cL_law 171 = .ok (.iaload, 1) := by decide +kernel
theorem dL_law_172 : decode cL_law 172 = .ok (.aload_n 0, 1) := by decide +kernel
theorem dL_law_173 : decode cL_law 173 = .ok (.iload 4, 2) := by decide +kernel
theorem dL_law_175 : decode cL_law 175 = .ok (.iconst 2, 1) := by decide +kernel
theorem dL_law_176 : decode cL_law 176 = .ok (.iadd, 1) := by decide +kernel
theorem dL_law_177 : decode cL_law 177 = .ok (.iaload, 1) := by decide +kernel
theorem dL_law_178 : decode cL_law 178 = .ok (.aload_n 0, 1) := by decide +kernel
theorem dL_law_179 : decode cL_law 179 = .ok (.iload 4, 2) := by decide +kernel
theorem dL_law_181 : decode cL_law 181 = .ok (.iconst 3, 1) := by decide +kernel
theorem dL_law_182 : decode cL_law 182 = .ok (.iadd, 1) := by decide +kernel
theorem dL_law_183 : decode cL_law 183 = .ok (.iaload, 1) := by decide +kernel
theorem dL_law_184 : decode cL_law 184 = .ok (.invokevirtual 59, 3) := by decide +kernel
theorem dL_law_187 : decode cL_law 187 = .ok (.istore 6, 2) := by decide +kernel
theorem dL_law_189 : decode cL_law 189 = .ok (.aload_n 2, 1) := by decide +kernel
theorem dL_law_190 : decode cL_law 190 = .ok (.invokevirtual 60, 3) := by decide +kernel
theorem dL_law_193 : decode cL_law 193 = .ok (.iload 5, 2) := by decide +kernel
theorem dL_law_195 : decode cL_law 195 = .ok (.if_icmp .eq 5, 3) := by decide +kernel
theorem dL_law_198 : decode cL_law 198 = .ok (.iconst 0, 1) := by decide +kernel
theorem dL_law_199 : decode cL_law 199 = .ok (.ireturn, 1) := by decide +kernel
theorem dL_law_200 : decode cL_law 200 = .ok (.iload 5, 2) := by decide +kernel
theorem dL_law_202 : decode cL_law 202 = .ok (.ifCond .ne 15, 3) := by decide +kernel
theorem dL_law_205 : decode cL_law 205 = .ok (.aload_n 3, 1) := by decide +kernel
theorem dL_law_206 : decode cL_law 206 = .ok (.iconst 0, 1) := by decide +kernel
theorem dL_law_207 : decode cL_law 207 = .ok (.laload, 1) := by decide +kernel
theorem dL_law_208 : decode cL_law 208 = .ok (.iload 6, 2) := by decide +kernel
theorem dL_law_210 : decode cL_law 210 = .ok (.i2l, 1) := by decide +kernel
theorem dL_law_211 : decode cL_law 211 = .ok (.lcmp, 1) := by decide +kernel
theorem dL_law_212 : decode cL_law 212 = .ok (.ifCond .eq 5, 3) := by decide +kernel
theorem dL_law_215 : decode cL_law 215 = .ok (.iconst 0, 1) := by decide +kernel
theorem dL_law_216 : decode cL_law 216 = .ok (.ireturn, 1) := by decide +kernel
theorem dL_law_217 : decode cL_law 217 = .ok (.goto 707, 3) := by decide +kernel
theorem dL_law_220 : decode cL_law 220 = .ok (.aload_n 1, 1) := by decide +kernel
theorem dL_law_221 : decode cL_law 221 = .ok (.aload_n 0, 1) := by decide +kernel
theorem dL_law_222 : decode cL_law 222 = .ok (.iload 4, 2) := by decide +kernel
theorem dL_law_224 : decode cL_law 224 = .ok (.iconst 1, 1) := by decide +kernel
theorem dL_law_225 : decode cL_law 225 = .ok (.iadd, 1) := by decide +kernel
theorem dL_law_226 : decode cL_law 226 = .ok (.iaload, 1) := by decide +kernel
theorem dL_law_227 : decode cL_law 227 = .ok (.aload_n 0, 1) := by decide +kernel
theorem dL_law_228 : decode cL_law 228 = .ok (.iload 4, 2) := by decide +kernel
theorem dL_law_230 : decode cL_law 230 = .ok (.iconst 2, 1) := by decide +kernel
theorem dL_law_231 : decode cL_law 231 = .ok (.iadd, 1) := by decide +kernel
theorem dL_law_232 : decode cL_law 232 = .ok (.iaload, 1) := by decide +kernel
theorem dL_law_233 : decode cL_law 233 = .ok (.invokevirtual 64, 3) := by decide +kernel
theorem dL_law_236 : decode cL_law 236 = .ok (.aload_n 2, 1) := by decide +kernel
theorem dL_law_237 : decode cL_law 237 = .ok (.aload_n 0, 1) := by decide +kernel
theorem dL_law_238 : decode cL_law 238 = .ok (.iload 4, 2) := by decide +kernel
theorem dL_law_240 : decode cL_law 240 = .ok (.iconst 1, 1) := by decide +kernel
theorem dL_law_241 : decode cL_law 241 = .ok (.iadd, 1) := by decide +kernel
theorem dL_law_242 : decode cL_law 242 = .ok (.iaload, 1) := by decide +kernel
theorem dL_law_243 : decode cL_law 243 = .ok (.aload_n 0, 1) := by decide +kernel
theorem dL_law_244 : decode cL_law 244 = .ok (.iload 4, 2) := by decide +kernel
theorem dL_law_246 : decode cL_law 246 = .ok (.iconst 2, 1) := by decide +kernel
theorem dL_law_247 : decode cL_law 247 = .ok (.iadd, 1) := by decide +kernel
theorem dL_law_248 : decode cL_law 248 = .ok (.iaload, 1) := by decide +kernel
theorem dL_law_249 : decode cL_law 249 = .ok (.invokevirtual 67, 3) := by decide +kernel
theorem dL_law_252 : decode cL_law 252 = .ok (.if_icmp .eq 672, 3) := by decide +kernel
theorem dL_law_255 : decode cL_law 255 = .ok (.iconst 0, 1) := by decide +kernel
theorem dL_law_256 : decode cL_law 256 = .ok (.ireturn, 1) := by decide +kernel
theorem dL_law_257 : decode cL_law 257 = .ok (.aload_n 1, 1) := by decide +kernel
theorem dL_law_258 : decode cL_law 258 = .ok (.invokevirtual 68, 3) := by decide +kernel
theorem dL_law_261 : decode cL_law 261 = .ok (.aload_n 2, 1) := by decide +kernel
theorem dL_law_262 : decode cL_law 262 = .ok (.invokevirtual 71, 3) := by decide +kernel
theorem dL_law_265 : decode cL_law 265 = .ok (.if_icmp .eq 659, 3) := by decide +kernel
theorem dL_law_268 : decode cL_law 268 = .ok (.iconst 0, 1) := by decide +kernel
theorem dL_law_269 : decode cL_law 269 = .ok (.ireturn, 1) := by decide +kernel
theorem dL_law_270 : decode cL_law 270 = .ok (.aload_n 1, 1) := by decide +kernel
theorem dL_law_271 : decode cL_law 271 = .ok (.aload_n 0, 1) := by decide +kernel
theorem dL_law_272 : decode cL_law 272 = .ok (.iload 4, 2) := by decide +kernel
theorem dL_law_274 : decode cL_law 274 = .ok (.iconst 1, 1) := by decide +kernel
theorem dL_law_275 : decode cL_law 275 = .ok (.iadd, 1) := by decide +kernel
theorem dL_law_276 : decode cL_law 276 = .ok (.iaload, 1) := by decide +kernel
theorem dL_law_277 : decode cL_law 277 = .ok (.aload_n 0, 1) := by decide +kernel
theorem dL_law_278 : decode cL_law 278 = .ok (.iload 4, 2) := by decide +kernel
theorem dL_law_280 : decode cL_law 280 = .ok (.iconst 2, 1) := by decide +kernel
theorem dL_law_281 : decode cL_law 281 = .ok (.iadd, 1) := by decide +kernel
theorem dL_law_282 : decode cL_law 282 = .ok (.iaload, 1) := by decide +kernel
theorem dL_law_283 : decode cL_law 283 = .ok (.aload_n 3, 1) := by decide +kernel
theorem dL_law_284 : decode cL_law 284 = .ok (.invokestatic 72, 3) := by decide +kernel
theorem dL_law_287 : decode cL_law 287 = .ok (.istore 5, 2) := by decide +kernel
theorem dL_law_289 : decode cL_law 289 = .ok (.aload_n 2, 1) := by decide +kernel
theorem dL_law_290 : decode cL_law 290 = .ok (.aload_n 0, 1) := by decide +kernel
theorem dL_law_291 : decode cL_law 291 = .ok (.iload 4, 2) := by decide +kernel
theorem dL_law_293 : decode cL_law 293 = .ok (.iconst 1, 1) := by decide +kernel
theorem dL_law_294 : decode cL_law 294 = .ok (.iadd, 1) := by decide +kernel
theorem dL_law_295 : decode cL_law 295 = .ok (.iaload, 1) := by decide +kernel
theorem dL_law_296 : decode cL_law 296 = .ok (.aload_n 0, 1) := by decide +kernel
theorem dL_law_297 : decode cL_law 297 = .ok (.iload 4, 2) := by decide +kernel
theorem dL_law_299 : decode cL_law 299 = .ok (.iconst 2, 1) := by decide +kernel
theorem dL_law_300 : decode cL_law 300 = .ok (.iadd, 1) := by decide +kernel
theorem dL_law_301 : decode cL_law 301 = .ok (.iaload, 1) := by decide +kernel
theorem dL_law_302 : decode cL_law 302 = .ok (.invokevirtual 75, 3) := by decide +kernel
theorem dL_law_305 : decode cL_law 305 = .ok (.istore 6, 2) := by decide +kernel
theorem dL_law_307 : decode cL_law 307 = .ok (.aload_n 2, 1) := by decide +kernel
theorem dL_law_308 : decode cL_law 308 = .ok (.invokevirtual 60, 3) := by decide +kernel
theorem dL_law_311 : decode cL_law 311 = .ok (.iload 5, 2) := by decide +kernel
theorem dL_law_313 : decode cL_law 313 = .ok (.if_icmp .eq 5, 3) := by decide +kernel
theorem dL_law_316 : decode cL_law 316 = .ok (.iconst 0, 1) := by decide +kernel
theorem dL_law_317 : decode cL_law 317 = .ok (.ireturn, 1) := by decide +kernel
theorem dL_law_318 : decode cL_law 318 = .ok (.iload 5, 2) := by decide +kernel
theorem dL_law_320 : decode cL_law 320 = .ok (.ifCond .ne 15, 3) := by decide +kernel
theorem dL_law_323 : decode cL_law 323 = .ok (.aload_n 3, 1) := by decide +kernel
theorem dL_law_324 : decode cL_law 324 = .ok (.iconst 0, 1) := by decide +kernel
theorem dL_law_325 : decode cL_law 325 = .ok (.laload, 1) := by decide +kernel
theorem dL_law_326 : decode cL_law 326 = .ok (.iload 6, 2) := by decide +kernel
theorem dL_law_328 : decode cL_law 328 = .ok (.i2l, 1) := by decide +kernel
theorem dL_law_329 : decode cL_law 329 = .ok (.lcmp, 1) := by decide +kernel
theorem dL_law_330 : decode cL_law 330 = .ok (.ifCond .eq 5, 3) := by decide +kernel
theorem dL_law_333 : decode cL_law 333 = .ok (.iconst 0, 1) := by decide +kernel
theorem dL_law_334 : decode cL_law 334 = .ok (.ireturn, 1) := by decide +kernel
theorem dL_law_335 : decode cL_law 335 = .ok (.goto 589, 3) := by decide +kernel
theorem dL_law_338 : decode cL_law 338 = .ok (.aload_n 1, 1) := by decide +kernel
theorem dL_law_339 : decode cL_law 339 = .ok (.aload_n 0, 1) := by decide +kernel
theorem dL_law_340 : decode cL_law 340 = .ok (.iload 4, 2) := by decide +kernel
theorem dL_law_342 : decode cL_law 342 = .ok (.iconst 1, 1) := by decide +kernel
theorem dL_law_343 : decode cL_law 343 = .ok (.iadd, 1) := by decide +kernel
theorem dL_law_344 : decode cL_law 344 = .ok (.iaload, 1) := by decide +kernel
theorem dL_law_345 : decode cL_law 345 = .ok (.aload_n 3, 1) := by decide +kernel
theorem dL_law_346 : decode cL_law 346 = .ok (.invokestatic 76, 3) := by decide +kernel
theorem dL_law_349 : decode cL_law 349 = .ok (.istore 5, 2) := by decide +kernel
theorem dL_law_351 : decode cL_law 351 = .ok (.aload_n 2, 1) := by decide +kernel
theorem dL_law_352 : decode cL_law 352 = .ok (.aload_n 0, 1) := by decide +kernel
theorem dL_law_353 : decode cL_law 353 = .ok (.iload 4, 2) := by decide +kernel
theorem dL_law_355 : decode cL_law 355 = .ok (.iconst 1, 1) := by decide +kernel
theorem dL_law_356 : decode cL_law 356 = .ok (.iadd, 1) := by decide +kernel
theorem dL_law_357 : decode cL_law 357 = .ok (.iaload, 1) := by decide +kernel
theorem dL_law_358 : decode cL_law 358 = .ok (.invokevirtual 79, 3) := by decide +kernel
theorem dL_law_361 : decode cL_law 361 = .ok (.istore 6, 2) := by decide +kernel
theorem dL_law_363 : decode cL_law 363 = .ok (.aload_n 2, 1) := by decide +kernel
theorem dL_law_364 : decode cL_law 364 = .ok (.invokevirtual 60, 3) := by decide +kernel
theorem dL_law_367 : decode cL_law 367 = .ok (.iload 5, 2) := by decide +kernel
theorem dL_law_369 : decode cL_law 369 = .ok (.if_icmp .eq 5, 3) := by decide +kernel
theorem dL_law_372 : decode cL_law 372 = .ok (.iconst 0, 1) := by decide +kernel
theorem dL_law_373 : decode cL_law 373 = .ok (.ireturn, 1) := by decide +kernel
theorem dL_law_374 : decode cL_law 374 = .ok (.iload 5, 2) := by decide +kernel
theorem dL_law_376 : decode cL_law 376 = .ok (.ifCond .ne 15, 3) := by decide +kernel
theorem dL_law_379 : decode cL_law 379 = .ok (.aload_n 3, 1) := by decide +kernel
theorem dL_law_380 : decode cL_law 380 = .ok (.iconst 0, 1) := by decide +kernel
theorem dL_law_381 : decode cL_law 381 = .ok (.laload, 1) := by decide +kernel
theorem dL_law_382 : decode cL_law 382 = .ok (.iload 6, 2) := by decide +kernel
theorem dL_law_384 : decode cL_law 384 = .ok (.i2l, 1) := by decide +kernel
theorem dL_law_385 : decode cL_law 385 = .ok (.lcmp, 1) := by decide +kernel
theorem dL_law_386 : decode cL_law 386 = .ok (.ifCond .eq 5, 3) := by decide +kernel
theorem dL_law_389 : decode cL_law 389 = .ok (.iconst 0, 1) := by decide +kernel
theorem dL_law_390 : decode cL_law 390 = .ok (.ireturn, 1) := by decide +kernel
theorem dL_law_391 : decode cL_law 391 = .ok (.goto 533, 3) := by decide +kernel
theorem dL_law_394 : decode cL_law 394 = .ok (.aload_n 1, 1) := by decide +kernel
theorem dL_law_395 : decode cL_law 395 = .ok (.invokevirtual 80, 3) := by decide +kernel
theorem dL_law_398 : decode cL_law 398 = .ok (.aload_n 2, 1) := by decide +kernel
theorem dL_law_399 : decode cL_law 399 = .ok (.invokevirtual 84, 3) := by decide +kernel
theorem dL_law_402 : decode cL_law 402 = .ok (.lcmp, 1) := by decide +kernel
theorem dL_law_403 : decode cL_law 403 = .ok (.ifCond .eq 521, 3) := by decide +kernel
theorem dL_law_406 : decode cL_law 406 = .ok (.iconst 0, 1) := by decide +kernel
theorem dL_law_407 : decode cL_law 407 = .ok (.ireturn, 1) := by decide +kernel
theorem dL_law_408 : decode cL_law 408 = .ok (.aload_n 1, 1) := by decide +kernel
theorem dL_law_409 : decode cL_law 409 = .ok (.aload_n 0, 1) := by decide +kernel
theorem dL_law_410 : decode cL_law 410 = .ok (.iload 4, 2) := by decide +kernel
theorem dL_law_412 : decode cL_law 412 = .ok (.iconst 1, 1) := by decide +kernel
theorem dL_law_413 : decode cL_law 413 = .ok (.iadd, 1) := by decide +kernel
theorem dL_law_414 : decode cL_law 414 = .ok (.iaload, 1) := by decide +kernel
theorem dL_law_415 : decode cL_law 415 = .ok (.aload_n 3, 1) := by decide +kernel
theorem dL_law_416 : decode cL_law 416 = .ok (.invokestatic 85, 3) := by decide +kernel
theorem dL_law_419 : decode cL_law 419 = .ok (.istore 5, 2) := by decide +kernel
theorem dL_law_421 : decode cL_law 421 = .ok (.aload_n 2, 1) := by decide +kernel
theorem dL_law_422 : decode cL_law 422 = .ok (.aload_n 0, 1) := by decide +kernel
theorem dL_law_423 : decode cL_law 423 = .ok (.iload 4, 2) := by decide +kernel
theorem dL_law_425 : decode cL_law 425 = .ok (.iconst 1, 1) := by decide +kernel
theorem dL_law_426 : decode cL_law 426 = .ok (.iadd, 1) := by decide +kernel
theorem dL_law_427 : decode cL_law 427 = .ok (.iaload, 1) := by decide +kernel
theorem dL_law_428 : decode cL_law 428 = .ok (.invokevirtual 87, 3) := by decide +kernel
theorem dL_law_431 : decode cL_law 431 = .ok (.istore 6, 2) := by decide +kernel
theorem dL_law_433 : decode cL_law 433 = .ok (.aload_n 2, 1) := by decide +kernel
theorem dL_law_434 : decode cL_law 434 = .ok (.invokevirtual 60, 3) := by decide +kernel
theorem dL_law_437 : decode cL_law 437 = .ok (.iload 5, 2) := by decide +kernel
theorem dL_law_439 : decode cL_law 439 = .ok (.if_icmp .eq 5, 3) := by decide +kernel
theorem dL_law_442 : decode cL_law 442 = .ok (.iconst 0, 1) := by decide +kernel
theorem dL_law_443 : decode cL_law 443 = .ok (.ireturn, 1) := by decide +kernel
theorem dL_law_444 : decode cL_law 444 = .ok (.iload 5, 2) := by decide +kernel
theorem dL_law_446 : decode cL_law 446 = .ok (.ifCond .ne 15, 3) := by decide +kernel
theorem dL_law_449 : decode cL_law 449 = .ok (.aload_n 3, 1) := by decide +kernel
theorem dL_law_450 : decode cL_law 450 = .ok (.iconst 0, 1) := by decide +kernel
theorem dL_law_451 : decode cL_law 451 = .ok (.laload, 1) := by decide +kernel
theorem dL_law_452 : decode cL_law 452 = .ok (.iload 6, 2) := by decide +kernel
theorem dL_law_454 : decode cL_law 454 = .ok (.i2l, 1) := by decide +kernel
theorem dL_law_455 : decode cL_law 455 = .ok (.lcmp, 1) := by decide +kernel
theorem dL_law_456 : decode cL_law 456 = .ok (.ifCond .eq 5, 3) := by decide +kernel
theorem dL_law_459 : decode cL_law 459 = .ok (.iconst 0, 1) := by decide +kernel
theorem dL_law_460 : decode cL_law 460 = .ok (.ireturn, 1) := by decide +kernel
theorem dL_law_461 : decode cL_law 461 = .ok (.goto 463, 3) := by decide +kernel
theorem dL_law_464 : decode cL_law 464 = .ok (.aload_n 1, 1) := by decide +kernel
theorem dL_law_465 : decode cL_law 465 = .ok (.aload_n 0, 1) := by decide +kernel
theorem dL_law_466 : decode cL_law 466 = .ok (.iload 4, 2) := by decide +kernel
theorem dL_law_468 : decode cL_law 468 = .ok (.iconst 1, 1) := by decide +kernel
theorem dL_law_469 : decode cL_law 469 = .ok (.iadd, 1) := by decide +kernel
theorem dL_law_470 : decode cL_law 470 = .ok (.iaload, 1) := by decide +kernel
theorem dL_law_471 : decode cL_law 471 = .ok (.aload_n 0, 1) := by decide +kernel
theorem dL_law_472 : decode cL_law 472 = .ok (.iload 4, 2) := by decide +kernel
theorem dL_law_474 : decode cL_law 474 = .ok (.iconst 2, 1) := by decide +kernel
theorem dL_law_475 : decode cL_law 475 = .ok (.iadd, 1) := by decide +kernel
theorem dL_law_476 : decode cL_law 476 = .ok (.iaload, 1) := by decide +kernel
theorem dL_law_477 : decode cL_law 477 = .ok (.aload_n 3, 1) := by decide +kernel
theorem dL_law_478 : decode cL_law 478 = .ok (.invokestatic 88, 3) := by decide +kernel
theorem dL_law_481 : decode cL_law 481 = .ok (.istore 5, 2) := by decide +kernel
theorem dL_law_483 : decode cL_law 483 = .ok (.aload_n 2, 1) := by decide +kernel
theorem dL_law_484 : decode cL_law 484 = .ok (.aload_n 0, 1) := by decide +kernel
theorem dL_law_485 : decode cL_law 485 = .ok (.iload 4, 2) := by decide +kernel
theorem dL_law_487 : decode cL_law 487 = .ok (.iconst 1, 1) := by decide +kernel
theorem dL_law_488 : decode cL_law 488 = .ok (.iadd, 1) := by decide +kernel
theorem dL_law_489 : decode cL_law 489 = .ok (.iaload, 1) := by decide +kernel
theorem dL_law_490 : decode cL_law 490 = .ok (.aload_n 0, 1) := by decide +kernel
theorem dL_law_491 : decode cL_law 491 = .ok (.iload 4, 2) := by decide +kernel
theorem dL_law_493 : decode cL_law 493 = .ok (.iconst 2, 1) := by decide +kernel
theorem dL_law_494 : decode cL_law 494 = .ok (.iadd, 1) := by decide +kernel
theorem dL_law_495 : decode cL_law 495 = .ok (.iaload, 1) := by decide +kernel
theorem dL_law_496 : decode cL_law 496 = .ok (.invokevirtual 90, 3) := by decide +kernel
theorem dL_law_499 : decode cL_law 499 = .ok (.istore 6, 2) := by decide +kernel
theorem dL_law_501 : decode cL_law 501 = .ok (.aload_n 2, 1) := by decide +kernel
theorem dL_law_502 : decode cL_law 502 = .ok (.invokevirtual 60, 3) := by decide +kernel
theorem dL_law_505 : decode cL_law 505 = .ok (.iload 5, 2) := by decide +kernel
theorem dL_law_507 : decode cL_law 507 = .ok (.if_icmp .eq 5, 3) := by decide +kernel
theorem dL_law_510 : decode cL_law 510 = .ok (.iconst 0, 1) := by decide +kernel
theorem dL_law_511 : decode cL_law 511 = .ok (.ireturn, 1) := by decide +kernel
theorem dL_law_512 : decode cL_law 512 = .ok (.iload 5, 2) := by decide +kernel
theorem dL_law_514 : decode cL_law 514 = .ok (.ifCond .ne 15, 3) := by decide +kernel
theorem dL_law_517 : decode cL_law 517 = .ok (.aload_n 3, 1) := by decide +kernel
theorem dL_law_518 : decode cL_law 518 = .ok (.iconst 0, 1) := by decide +kernel
theorem dL_law_519 : decode cL_law 519 = .ok (.laload, 1) := by decide +kernel
theorem dL_law_520 : decode cL_law 520 = .ok (.iload 6, 2) := by decide +kernel
theorem dL_law_522 : decode cL_law 522 = .ok (.i2l, 1) := by decide +kernel
theorem dL_law_523 : decode cL_law 523 = .ok (.lcmp, 1) := by decide +kernel
theorem dL_law_524 : decode cL_law 524 = .ok (.ifCond .eq 5, 3) := by decide +kernel
theorem dL_law_527 : decode cL_law 527 = .ok (.iconst 0, 1) := by decide +kernel
theorem dL_law_528 : decode cL_law 528 = .ok (.ireturn, 1) := by decide +kernel
theorem dL_law_529 : decode cL_law 529 = .ok (.goto 395, 3) := by decide +kernel
theorem dL_law_532 : decode cL_law 532 = .ok (.aload_n 1, 1) := by decide +kernel
theorem dL_law_533 : decode cL_law 533 = .ok (.aload_n 0, 1) := by decide +kernel
theorem dL_law_534 : decode cL_law 534 = .ok (.iload 4, 2) := by decide +kernel
theorem dL_law_536 : decode cL_law 536 = .ok (.iconst 1, 1) := by decide +kernel
theorem dL_law_537 : decode cL_law 537 = .ok (.iadd, 1) := by decide +kernel
theorem dL_law_538 : decode cL_law 538 = .ok (.iaload, 1) := by decide +kernel
theorem dL_law_539 : decode cL_law 539 = .ok (.aload_n 3, 1) := by decide +kernel
theorem dL_law_540 : decode cL_law 540 = .ok (.invokestatic 91, 3) := by decide +kernel
theorem dL_law_543 : decode cL_law 543 = .ok (.istore 5, 2) := by decide +kernel
theorem dL_law_545 : decode cL_law 545 = .ok (.aload_n 2, 1) := by decide +kernel
theorem dL_law_546 : decode cL_law 546 = .ok (.aload_n 0, 1) := by decide +kernel
theorem dL_law_547 : decode cL_law 547 = .ok (.iload 4, 2) := by decide +kernel
theorem dL_law_549 : decode cL_law 549 = .ok (.iconst 1, 1) := by decide +kernel
theorem dL_law_550 : decode cL_law 550 = .ok (.iadd, 1) := by decide +kernel
theorem dL_law_551 : decode cL_law 551 = .ok (.iaload, 1) := by decide +kernel
theorem dL_law_552 : decode cL_law 552 = .ok (.invokevirtual 93, 3) := by decide +kernel
theorem dL_law_555 : decode cL_law 555 = .ok (.istore 6, 2) := by decide +kernel
theorem dL_law_557 : decode cL_law 557 = .ok (.aload_n 2, 1) := by decide +kernel
theorem dL_law_558 : decode cL_law 558 = .ok (.invokevirtual 60, 3) := by decide +kernel
theorem dL_law_561 : decode cL_law 561 = .ok (.iload 5, 2) := by decide +kernel
theorem dL_law_563 : decode cL_law 563 = .ok (.if_icmp .eq 5, 3) := by decide +kernel
theorem dL_law_566 : decode cL_law 566 = .ok (.iconst 0, 1) := by decide +kernel
theorem dL_law_567 : decode cL_law 567 = .ok (.ireturn, 1) := by decide +kernel
theorem dL_law_568 : decode cL_law 568 = .ok (.iload 5, 2) := by decide +kernel
theorem dL_law_570 : decode cL_law 570 = .ok (.ifCond .ne 15, 3) := by decide +kernel
theorem dL_law_573 : decode cL_law 573 = .ok (.aload_n 3, 1) := by decide +kernel
theorem dL_law_574 : decode cL_law 574 = .ok (.iconst 0, 1) := by decide +kernel
theorem dL_law_575 : decode cL_law 575 = .ok (.laload, 1) := by decide +kernel
theorem dL_law_576 : decode cL_law 576 = .ok (.iload 6, 2) := by decide +kernel
theorem dL_law_578 : decode cL_law 578 = .ok (.i2l, 1) := by decide +kernel
theorem dL_law_579 : decode cL_law 579 = .ok (.lcmp, 1) := by decide +kernel
theorem dL_law_580 : decode cL_law 580 = .ok (.ifCond .eq 5, 3) := by decide +kernel
theorem dL_law_583 : decode cL_law 583 = .ok (.iconst 0, 1) := by decide +kernel
theorem dL_law_584 : decode cL_law 584 = .ok (.ireturn, 1) := by decide +kernel
theorem dL_law_585 : decode cL_law 585 = .ok (.goto 339, 3) := by decide +kernel
theorem dL_law_588 : decode cL_law 588 = .ok (.aload_n 1, 1) := by decide +kernel
theorem dL_law_589 : decode cL_law 589 = .ok (.invokevirtual 94, 3) := by decide +kernel
theorem dL_law_592 : decode cL_law 592 = .ok (.aload_n 2, 1) := by decide +kernel
theorem dL_law_593 : decode cL_law 593 = .ok (.invokevirtual 97, 3) := by decide +kernel
theorem dL_law_596 : decode cL_law 596 = .ok (.if_icmp .eq 328, 3) := by decide +kernel
theorem dL_law_599 : decode cL_law 599 = .ok (.iconst 0, 1) := by decide +kernel
theorem dL_law_600 : decode cL_law 600 = .ok (.ireturn, 1) := by decide +kernel
theorem dL_law_601 : decode cL_law 601 = .ok (.aload_n 1, 1) := by decide +kernel
theorem dL_law_602 : decode cL_law 602 = .ok (.invokevirtual 98, 3) := by decide +kernel
theorem dL_law_605 : decode cL_law 605 = .ok (.aload_n 2, 1) := by decide +kernel
theorem dL_law_606 : decode cL_law 606 = .ok (.invokevirtual 101, 3) := by decide +kernel
theorem dL_law_609 : decode cL_law 609 = .ok (.if_icmp .eq 315, 3) := by decide +kernel
theorem dL_law_612 : decode cL_law 612 = .ok (.iconst 0, 1) := by decide +kernel
theorem dL_law_613 : decode cL_law 613 = .ok (.ireturn, 1) := by decide +kernel
theorem dL_law_614 : decode cL_law 614 = .ok (.aload_n 1, 1) := by decide +kernel
theorem dL_law_615 : decode cL_law 615 = .ok (.aload_n 0, 1) := by decide +kernel
theorem dL_law_616 : decode cL_law 616 = .ok (.iload 4, 2) := by decide +kernel
theorem dL_law_618 : decode cL_law 618 = .ok (.iconst 1, 1) := by decide +kernel
theorem dL_law_619 : decode cL_law 619 = .ok (.iadd, 1) := by decide +kernel
theorem dL_law_620 : decode cL_law 620 = .ok (.iaload, 1) := by decide +kernel
theorem dL_law_621 : decode cL_law 621 = .ok (.aload_n 0, 1) := by decide +kernel
theorem dL_law_622 : decode cL_law 622 = .ok (.iload 4, 2) := by decide +kernel
theorem dL_law_624 : decode cL_law 624 = .ok (.iconst 2, 1) := by decide +kernel
theorem dL_law_625 : decode cL_law 625 = .ok (.iadd, 1) := by decide +kernel
theorem dL_law_626 : decode cL_law 626 = .ok (.iaload, 1) := by decide +kernel
theorem dL_law_627 : decode cL_law 627 = .ok (.aload_n 3, 1) := by decide +kernel
theorem dL_law_628 : decode cL_law 628 = .ok (.invokestatic 102, 3) := by decide +kernel
theorem dL_law_631 : decode cL_law 631 = .ok (.istore 5, 2) := by decide +kernel
theorem dL_law_633 : decode cL_law 633 = .ok (.aload_n 2, 1) := by decide +kernel
theorem dL_law_634 : decode cL_law 634 = .ok (.aload_n 0, 1) := by decide +kernel
theorem dL_law_635 : decode cL_law 635 = .ok (.iload 4, 2) := by decide +kernel
theorem dL_law_637 : decode cL_law 637 = .ok (.iconst 1, 1) := by decide +kernel
theorem dL_law_638 : decode cL_law 638 = .ok (.iadd, 1) := by decide +kernel
theorem dL_law_639 : decode cL_law 639 = .ok (.iaload, 1) := by decide +kernel
theorem dL_law_640 : decode cL_law 640 = .ok (.aload_n 0, 1) := by decide +kernel
theorem dL_law_641 : decode cL_law 641 = .ok (.iload 4, 2) := by decide +kernel
theorem dL_law_643 : decode cL_law 643 = .ok (.iconst 2, 1) := by decide +kernel
theorem dL_law_644 : decode cL_law 644 = .ok (.iadd, 1) := by decide +kernel
theorem dL_law_645 : decode cL_law 645 = .ok (.iaload, 1) := by decide +kernel
theorem dL_law_646 : decode cL_law 646 = .ok (.invokevirtual 104, 3) := by decide +kernel
theorem dL_law_649 : decode cL_law 649 = .ok (.istore 6, 2) := by decide +kernel
theorem dL_law_651 : decode cL_law 651 = .ok (.aload_n 2, 1) := by decide +kernel
theorem dL_law_652 : decode cL_law 652 = .ok (.invokevirtual 60, 3) := by decide +kernel
theorem dL_law_655 : decode cL_law 655 = .ok (.iload 5, 2) := by decide +kernel
theorem dL_law_657 : decode cL_law 657 = .ok (.if_icmp .eq 5, 3) := by decide +kernel
theorem dL_law_660 : decode cL_law 660 = .ok (.iconst 0, 1) := by decide +kernel
theorem dL_law_661 : decode cL_law 661 = .ok (.ireturn, 1) := by decide +kernel
theorem dL_law_662 : decode cL_law 662 = .ok (.iload 5, 2) := by decide +kernel
theorem dL_law_664 : decode cL_law 664 = .ok (.ifCond .ne 22, 3) := by decide +kernel
theorem dL_law_667 : decode cL_law 667 = .ok (.aload_n 3, 1) := by decide +kernel
theorem dL_law_668 : decode cL_law 668 = .ok (.iconst 0, 1) := by decide +kernel
theorem dL_law_669 : decode cL_law 669 = .ok (.laload, 1) := by decide +kernel
theorem dL_law_670 : decode cL_law 670 = .ok (.iload 6, 2) := by decide +kernel
theorem dL_law_672 : decode cL_law 672 = .ok (.ifCond .eq 7, 3) := by decide +kernel
theorem dL_law_675 : decode cL_law 675 = .ok (.lconst 1, 1) := by decide +kernel
theorem dL_law_676 : decode cL_law 676 = .ok (.goto 4, 3) := by decide +kernel
theorem dL_law_679 : decode cL_law 679 = .ok (.lconst 0, 1) := by decide +kernel
theorem dL_law_680 : decode cL_law 680 = .ok (.lcmp, 1) := by decide +kernel
theorem dL_law_681 : decode cL_law 681 = .ok (.ifCond .eq 5, 3) := by decide +kernel
theorem dL_law_684 : decode cL_law 684 = .ok (.iconst 0, 1) := by decide +kernel
theorem dL_law_685 : decode cL_law 685 = .ok (.ireturn, 1) := by decide +kernel
theorem dL_law_686 : decode cL_law 686 = .ok (.goto 238, 3) := by decide +kernel
theorem dL_law_689 : decode cL_law 689 = .ok (.aload_n 1, 1) := by decide +kernel
theorem dL_law_690 : decode cL_law 690 = .ok (.aload_n 0, 1) := by decide +kernel
theorem dL_law_691 : decode cL_law 691 = .ok (.iload 4, 2) := by decide +kernel
theorem dL_law_693 : decode cL_law 693 = .ok (.iconst 1, 1) := by decide +kernel
theorem dL_law_694 : decode cL_law 694 = .ok (.iadd, 1) := by decide +kernel
theorem dL_law_695 : decode cL_law 695 = .ok (.iaload, 1) := by decide +kernel
theorem dL_law_696 : decode cL_law 696 = .ok (.aload_n 0, 1) := by decide +kernel
theorem dL_law_697 : decode cL_law 697 = .ok (.iload 4, 2) := by decide +kernel
theorem dL_law_699 : decode cL_law 699 = .ok (.iconst 2, 1) := by decide +kernel
theorem dL_law_700 : decode cL_law 700 = .ok (.iadd, 1) := by decide +kernel
theorem dL_law_701 : decode cL_law 701 = .ok (.iaload, 1) := by decide +kernel
theorem dL_law_702 : decode cL_law 702 = .ok (.aload_n 0, 1) := by decide +kernel
theorem dL_law_703 : decode cL_law 703 = .ok (.iload 4, 2) := by decide +kernel
theorem dL_law_705 : decode cL_law 705 = .ok (.iconst 3, 1) := by decide +kernel
theorem dL_law_706 : decode cL_law 706 = .ok (.iadd, 1) := by decide +kernel
theorem dL_law_707 : decode cL_law 707 = .ok (.iaload, 1) := by decide +kernel
theorem dL_law_708 : decode cL_law 708 = .ok (.aload_n 0, 1) := by decide +kernel
theorem dL_law_709 : decode cL_law 709 = .ok (.iload 4, 2) := by decide +kernel
theorem dL_law_711 : decode cL_law 711 = .ok (.iconst 4, 1) := by decide +kernel
theorem dL_law_712 : decode cL_law 712 = .ok (.iadd, 1) := by decide +kernel
theorem dL_law_713 : decode cL_law 713 = .ok (.iaload, 1) := by decide +kernel
theorem dL_law_714 : decode cL_law 714 = .ok (.aload_n 0, 1) := by decide +kernel
theorem dL_law_715 : decode cL_law 715 = .ok (.iload 4, 2) := by decide +kernel
theorem dL_law_717 : decode cL_law 717 = .ok (.iconst 5, 1) := by decide +kernel
theorem dL_law_718 : decode cL_law 718 = .ok (.iadd, 1) := by decide +kernel
theorem dL_law_719 : decode cL_law 719 = .ok (.iaload, 1) := by decide +kernel
theorem dL_law_720 : decode cL_law 720 = .ok (.ifCond .eq 7, 3) := by decide +kernel
theorem dL_law_723 : decode cL_law 723 = .ok (.iconst 1, 1) := by decide +kernel
theorem dL_law_724 : decode cL_law 724 = .ok (.goto 4, 3) := by decide +kernel
theorem dL_law_727 : decode cL_law 727 = .ok (.iconst 0, 1) := by decide +kernel
theorem dL_law_728 : decode cL_law 728 = .ok (.aload_n 3, 1) := by decide +kernel
theorem dL_law_729 : decode cL_law 729 = .ok (.invokestatic 105, 3) := by decide +kernel
theorem dL_law_732 : decode cL_law 732 = .ok (.istore 5, 2) := by decide +kernel
theorem dL_law_734 : decode cL_law 734 = .ok (.aload_n 2, 1) := by decide +kernel
theorem dL_law_735 : decode cL_law 735 = .ok (.aload_n 0, 1) := by decide +kernel
theorem dL_law_736 : decode cL_law 736 = .ok (.iload 4, 2) := by decide +kernel
theorem dL_law_738 : decode cL_law 738 = .ok (.iconst 1, 1) := by decide +kernel
theorem dL_law_739 : decode cL_law 739 = .ok (.iadd, 1) := by decide +kernel
theorem dL_law_740 : decode cL_law 740 = .ok (.iaload, 1) := by decide +kernel
theorem dL_law_741 : decode cL_law 741 = .ok (.aload_n 0, 1) := by decide +kernel
theorem dL_law_742 : decode cL_law 742 = .ok (.iload 4, 2) := by decide +kernel
theorem dL_law_744 : decode cL_law 744 = .ok (.iconst 2, 1) := by decide +kernel
theorem dL_law_745 : decode cL_law 745 = .ok (.iadd, 1) := by decide +kernel
theorem dL_law_746 : decode cL_law 746 = .ok (.iaload, 1) := by decide +kernel
theorem dL_law_747 : decode cL_law 747 = .ok (.aload_n 0, 1) := by decide +kernel
theorem dL_law_748 : decode cL_law 748 = .ok (.iload 4, 2) := by decide +kernel
theorem dL_law_750 : decode cL_law 750 = .ok (.iconst 3, 1) := by decide +kernel
theorem dL_law_751 : decode cL_law 751 = .ok (.iadd, 1) := by decide +kernel
theorem dL_law_752 : decode cL_law 752 = .ok (.iaload, 1) := by decide +kernel
theorem dL_law_753 : decode cL_law 753 = .ok (.aload_n 0, 1) := by decide +kernel
theorem dL_law_754 : decode cL_law 754 = .ok (.iload 4, 2) := by decide +kernel
theorem dL_law_756 : decode cL_law 756 = .ok (.iconst 4, 1) := by decide +kernel
theorem dL_law_757 : decode cL_law 757 = .ok (.iadd, 1) := by decide +kernel
theorem dL_law_758 : decode cL_law 758 = .ok (.iaload, 1) := by decide +kernel
theorem dL_law_759 : decode cL_law 759 = .ok (.aload_n 0, 1) := by decide +kernel
theorem dL_law_760 : decode cL_law 760 = .ok (.iload 4, 2) := by decide +kernel
theorem dL_law_762 : decode cL_law 762 = .ok (.iconst 5, 1) := by decide +kernel
theorem dL_law_763 : decode cL_law 763 = .ok (.iadd, 1) := by decide +kernel
theorem dL_law_764 : decode cL_law 764 = .ok (.iaload, 1) := by decide +kernel
theorem dL_law_765 : decode cL_law 765 = .ok (.ifCond .eq 7, 3) := by decide +kernel
theorem dL_law_768 : decode cL_law 768 = .ok (.iconst 1, 1) := by decide +kernel
theorem dL_law_769 : decode cL_law 769 = .ok (.goto 4, 3) := by decide +kernel
theorem dL_law_772 : decode cL_law 772 = .ok (.iconst 0, 1) := by decide +kernel
theorem dL_law_773 : decode cL_law 773 = .ok (.invokevirtual 108, 3) := by decide +kernel
theorem dL_law_776 : decode cL_law 776 = .ok (.lstore 6, 2) := by decide +kernel
theorem dL_law_778 : decode cL_law 778 = .ok (.aload_n 2, 1) := by decide +kernel
theorem dL_law_779 : decode cL_law 779 = .ok (.invokevirtual 60, 3) := by decide +kernel
theorem dL_law_782 : decode cL_law 782 = .ok (.iload 5, 2) := by decide +kernel
theorem dL_law_784 : decode cL_law 784 = .ok (.if_icmp .eq 5, 3) := by decide +kernel
theorem dL_law_787 : decode cL_law 787 = .ok (.iconst 0, 1) := by decide +kernel
theorem dL_law_788 : decode cL_law 788 = .ok (.ireturn, 1) := by decide +kernel
theorem dL_law_789 : decode cL_law 789 = .ok (.iload 5, 2) := by decide +kernel
theorem dL_law_791 : decode cL_law 791 = .ok (.ifCond .ne 14, 3) := by decide +kernel
theorem dL_law_794 : decode cL_law 794 = .ok (.aload_n 3, 1) := by decide +kernel
theorem dL_law_795 : decode cL_law 795 = .ok (.iconst 0, 1) := by decide +kernel
theorem dL_law_796 : decode cL_law 796 = .ok (.laload, 1) := by decide +kernel
theorem dL_law_797 : decode cL_law 797 = .ok (.lload 6, 2) := by decide +kernel
theorem dL_law_799 : decode cL_law 799 = .ok (.lcmp, 1) := by decide +kernel
theorem dL_law_800 : decode cL_law 800 = .ok (.ifCond .eq 5, 3) := by decide +kernel
theorem dL_law_803 : decode cL_law 803 = .ok (.iconst 0, 1) := by decide +kernel
theorem dL_law_804 : decode cL_law 804 = .ok (.ireturn, 1) := by decide +kernel
theorem dL_law_805 : decode cL_law 805 = .ok (.goto 119, 3) := by decide +kernel
theorem dL_law_808 : decode cL_law 808 = .ok (.aload_n 1, 1) := by decide +kernel
theorem dL_law_809 : decode cL_law 809 = .ok (.aload_n 0, 1) := by decide +kernel
theorem dL_law_810 : decode cL_law 810 = .ok (.iload 4, 2) := by decide +kernel
theorem dL_law_812 : decode cL_law 812 = .ok (.iconst 1, 1) := by decide +kernel
theorem dL_law_813 : decode cL_law 813 = .ok (.iadd, 1) := by decide +kernel
theorem dL_law_814 : decode cL_law 814 = .ok (.iaload, 1) := by decide +kernel
theorem dL_law_815 : decode cL_law 815 = .ok (.aload_n 0, 1) := by decide +kernel
theorem dL_law_816 : decode cL_law 816 = .ok (.iload 4, 2) := by decide +kernel
theorem dL_law_818 : decode cL_law 818 = .ok (.iconst 2, 1) := by decide +kernel
theorem dL_law_819 : decode cL_law 819 = .ok (.iadd, 1) := by decide +kernel
theorem dL_law_820 : decode cL_law 820 = .ok (.iaload, 1) := by decide +kernel
theorem dL_law_821 : decode cL_law 821 = .ok (.aload_n 0, 1) := by decide +kernel
theorem dL_law_822 : decode cL_law 822 = .ok (.iload 4, 2) := by decide +kernel
theorem dL_law_824 : decode cL_law 824 = .ok (.iconst 3, 1) := by decide +kernel
theorem dL_law_825 : decode cL_law 825 = .ok (.iadd, 1) := by decide +kernel
theorem dL_law_826 : decode cL_law 826 = .ok (.iaload, 1) := by decide +kernel
theorem dL_law_827 : decode cL_law 827 = .ok (.aload_n 3, 1) := by decide +kernel
theorem dL_law_828 : decode cL_law 828 = .ok (.invokestatic 109, 3) := by decide +kernel
theorem dL_law_831 : decode cL_law 831 = .ok (.istore 5, 2) := by decide +kernel
theorem dL_law_833 : decode cL_law 833 = .ok (.aload_n 2, 1) := by decide +kernel
theorem dL_law_834 : decode cL_law 834 = .ok (.aload_n 0, 1) := by decide +kernel
theorem dL_law_835 : decode cL_law 835 = .ok (.iload 4, 2) := by decide +kernel
theorem dL_law_837 : decode cL_law 837 = .ok (.iconst 1, 1) := by decide +kernel
theorem dL_law_838 : decode cL_law 838 = .ok (.iadd, 1) := by decide +kernel
theorem dL_law_839 : decode cL_law 839 = .ok (.iaload, 1) := by decide +kernel
theorem dL_law_840 : decode cL_law 840 = .ok (.aload_n 0, 1) := by decide +kernel
theorem dL_law_841 : decode cL_law 841 = .ok (.iload 4, 2) := by decide +kernel
theorem dL_law_843 : decode cL_law 843 = .ok (.iconst 2, 1) := by decide +kernel
theorem dL_law_844 : decode cL_law 844 = .ok (.iadd, 1) := by decide +kernel
theorem dL_law_845 : decode cL_law 845 = .ok (.iaload, 1) := by decide +kernel
theorem dL_law_846 : decode cL_law 846 = .ok (.aload_n 0, 1) := by decide +kernel
theorem dL_law_847 : decode cL_law 847 = .ok (.iload 4, 2) := by decide +kernel
theorem dL_law_849 : decode cL_law 849 = .ok (.iconst 3, 1) := by decide +kernel
theorem dL_law_850 : decode cL_law 850 = .ok (.iadd, 1) := by decide +kernel
theorem dL_law_851 : decode cL_law 851 = .ok (.iaload, 1) := by decide +kernel
theorem dL_law_852 : decode cL_law 852 = .ok (.invokevirtual 111, 3) := by decide +kernel
theorem dL_law_855 : decode cL_law 855 = .ok (.istore 6, 2) := by decide +kernel
theorem dL_law_857 : decode cL_law 857 = .ok (.aload_n 2, 1) := by decide +kernel
theorem dL_law_858 : decode cL_law 858 = .ok (.invokevirtual 60, 3) := by decide +kernel
theorem dL_law_861 : decode cL_law 861 = .ok (.iload 5, 2) := by decide +kernel
theorem dL_law_863 : decode cL_law 863 = .ok (.if_icmp .eq 5, 3) := by decide +kernel
theorem dL_law_866 : decode cL_law 866 = .ok (.iconst 0, 1) := by decide +kernel
theorem dL_law_867 : decode cL_law 867 = .ok (.ireturn, 1) := by decide +kernel
theorem dL_law_868 : decode cL_law 868 = .ok (.iload 5, 2) := by decide +kernel
theorem dL_law_870 : decode cL_law 870 = .ok (.ifCond .ne 15, 3) := by decide +kernel
theorem dL_law_873 : decode cL_law 873 = .ok (.aload_n 3, 1) := by decide +kernel
theorem dL_law_874 : decode cL_law 874 = .ok (.iconst 0, 1) := by decide +kernel
theorem dL_law_875 : decode cL_law 875 = .ok (.laload, 1) := by decide +kernel
theorem dL_law_876 : decode cL_law 876 = .ok (.iload 6, 2) := by decide +kernel
theorem dL_law_878 : decode cL_law 878 = .ok (.i2l, 1) := by decide +kernel
theorem dL_law_879 : decode cL_law 879 = .ok (.lcmp, 1) := by decide +kernel
theorem dL_law_880 : decode cL_law 880 = .ok (.ifCond .eq 5, 3) := by decide +kernel
theorem dL_law_883 : decode cL_law 883 = .ok (.iconst 0, 1) := by decide +kernel
theorem dL_law_884 : decode cL_law 884 = .ok (.ireturn, 1) := by decide +kernel
theorem dL_law_885 : decode cL_law 885 = .ok (.goto 39, 3) := by decide +kernel
theorem dL_law_888 : decode cL_law 888 = .ok (.aload_n 1, 1) := by decide +kernel
theorem dL_law_889 : decode cL_law 889 = .ok (.aload_n 0, 1) := by decide +kernel
theorem dL_law_890 : decode cL_law 890 = .ok (.iload 4, 2) := by decide +kernel
theorem dL_law_892 : decode cL_law 892 = .ok (.iconst 1, 1) := by decide +kernel
theorem dL_law_893 : decode cL_law 893 = .ok (.iadd, 1) := by decide +kernel
theorem dL_law_894 : decode cL_law 894 = .ok (.iaload, 1) := by decide +kernel
theorem dL_law_895 : decode cL_law 895 = .ok (.invokevirtual 112, 3) := by decide +kernel
theorem dL_law_898 : decode cL_law 898 = .ok (.aload_n 2, 1) := by decide +kernel
theorem dL_law_899 : decode cL_law 899 = .ok (.aload_n 0, 1) := by decide +kernel
theorem dL_law_900 : decode cL_law 900 = .ok (.iload 4, 2) := by decide +kernel
theorem dL_law_902 : decode cL_law 902 = .ok (.iconst 1, 1) := by decide +kernel
theorem dL_law_903 : decode cL_law 903 = .ok (.iadd, 1) := by decide +kernel
theorem dL_law_904 : decode cL_law 904 = .ok (.iaload, 1) := by decide +kernel
theorem dL_law_905 : decode cL_law 905 = .ok (.invokevirtual 115, 3) := by decide +kernel
theorem dL_law_908 : decode cL_law 908 = .ok (.if_icmp .eq 16, 3) := by decide +kernel
theorem dL_law_911 : decode cL_law 911 = .ok (.iconst 0, 1) := by decide +kernel
theorem dL_law_912 : decode cL_law 912 = .ok (.ireturn, 1) := by decide +kernel
theorem dL_law_913 : decode cL_law 913 = .ok (.aload_n 1, 1) := by decide +kernel
theorem dL_law_914 : decode cL_law 914 = .ok (.invokevirtual 116, 3) := by decide +kernel
theorem dL_law_917 : decode cL_law 917 = .ok (.aload_n 2, 1) := by decide +kernel
theorem dL_law_918 : decode cL_law 918 = .ok (.invokevirtual 119, 3) := by decide +kernel
theorem dL_law_921 : decode cL_law 921 = .ok (.goto 3, 3) := by decide +kernel
theorem dL_law_924 : decode cL_law 924 = .ok (.iinc 4 6, 3) := by decide +kernel
theorem dL_law_927 : decode cL_law 927 = .ok (.goto (-884), 3) := by decide +kernel
theorem dL_law_930 : decode cL_law 930 = .ok (.iconst 1, 1) := by decide +kernel
theorem dL_law_931 : decode cL_law 931 = .ok (.ireturn, 1) := by decide +kernel
