theorem dX4_init_0 : decode cX4_init 0 = .ok (.aload_n 0, 1) := by decide +kernel
theorem dX4_init_1 : decode cX4_init 1 = .ok (.invokespecial 1, 3) := by decide +kernel
theorem dX4_init_4 : decode cX4_init 4 = .ok (.aload_n 0, 1) := by decide +kernel
theorem dX4_init_5 : decode cX4_init 5 = .ok (.new 7, 3) := by decide +kernel
theorem dX4_init_8 : decode cX4_init 8 = .ok (.dup, 1) := by decide +kernel
theorem dX4_init_9 : decode cX4_init 9 = .ok (.invokespecial 9, 3) := by decide +kernel
theorem dX4_init_12 : decode cX4_init 12 = .ok (.putfield 10, 3) := by decide +kernel
theorem dX4_init_15 : decode cX4_init 15 = .ok (.aload_n 0, 1) := by decide +kernel
theorem dX4_init_16 : decode cX4_init 16 = .ok (.bipush 6, 2) := by decide +kernel
theorem dX4_init_18 : decode cX4_init 18 = .ok (.anewarray 7, 3) := by decide +kernel
theorem dX4_init_21 : decode cX4_init 21 = .ok (.putfield 16, 3) := by decide +kernel
theorem dX4_init_24 : decode cX4_init 24 = .ok (.aload_n 0, 1) := by decide +kernel
theorem dX4_init_25 : decode cX4_init 25 = .ok (.iconst 0, 1) := by decide +kernel
theorem dX4_init_26 : decode cX4_init 26 = .ok (.putfield 20, 3) := by decide +kernel
theorem dX4_init_29 : decode cX4_init 29 = .ok (.aload_n 0, 1) := by decide +kernel
theorem dX4_init_30 : decode cX4_init 30 = .ok (.iconst 2, 1) := by decide +kernel
theorem dX4_init_31 : decode cX4_init 31 = .ok (.anewarray 7, 3) := by decide +kernel
theorem dX4_init_34 : decode cX4_init 34 = .ok (.putfield 24, 3) := by decide +kernel
theorem dX4_init_37 : decode cX4_init 37 = .ok (.aload_n 0, 1) := by decide +kernel
theorem dX4_init_38 : decode cX4_init 38 = .ok (.iconst 2, 1) := by decide +kernel
theorem dX4_init_39 : decode cX4_init 39 = .ok (.newarray .boolean, 2) := by decide +kernel
theorem dX4_init_41 : decode cX4_init 41 = .ok (.putfield 27, 3) := by decide +kernel
theorem dX4_init_44 : decode cX4_init 44 = .ok (.aload_n 0, 1) := by decide +kernel
theorem dX4_init_45 : decode cX4_init 45 = .ok (.new 31, 3) := by decide +kernel
theorem dX4_init_48 : decode cX4_init 48 = .ok (.dup, 1) := by decide +kernel
theorem dX4_init_49 : decode cX4_init 49 = .ok (.invokespecial 33, 3) := by decide +kernel
theorem dX4_init_52 : decode cX4_init 52 = .ok (.putfield 34, 3) := by decide +kernel
theorem dX4_init_55 : decode cX4_init 55 = .ok (.aload_n 0, 1) := by decide +kernel
theorem dX4_init_56 : decode cX4_init 56 = .ok (.new 38, 3) := by decide +kernel
theorem dX4_init_59 : decode cX4_init 59 = .ok (.dup, 1) := by decide +kernel
theorem dX4_init_60 : decode cX4_init 60 = .ok (.invokespecial 40, 3) := by decide +kernel
theorem dX4_init_63 : decode cX4_init 63 = .ok (.putfield 41, 3) := by decide +kernel
theorem dX4_init_66 : decode cX4_init 66 = .ok (.aload_n 0, 1) := by decide +kernel
theorem dX4_init_67 : decode cX4_init 67 = .ok (.bipush 40, 2) := by decide +kernel
theorem dX4_init_69 : decode cX4_init 69 = .ok (.newarray .int, 2) := by decide +kernel
theorem dX4_init_71 : decode cX4_init 71 = .ok (.putfield 45, 3) := by decide +kernel
theorem dX4_init_74 : decode cX4_init 74 = .ok (.aload_n 0, 1) := by decide +kernel
theorem dX4_init_75 : decode cX4_init 75 = .ok (.new 49, 3) := by decide +kernel
theorem dX4_init_78 : decode cX4_init 78 = .ok (.dup, 1) := by decide +kernel
theorem dX4_init_79 : decode cX4_init 79 = .ok (.invokespecial 51, 3) := by decide +kernel
theorem dX4_init_82 : decode cX4_init 82 = .ok (.putfield 52, 3) := by decide +kernel
theorem dX4_init_85 : decode cX4_init 85 = .ok (.iconst 0, 1) := by decide +kernel
theorem dX4_init_86 : decode cX4_init 86 = .ok (.istore_n 1, 1) := by decide +kernel
theorem dX4_init_87 : decode cX4_init 87 = .ok (.iload_n 1, 1) := by decide +kernel
theorem dX4_init_88 : decode cX4_init 88 = .ok (.bipush 6, 2) := by decide +kernel
theorem dX4_init_90 : decode cX4_init 90 = .ok (.if_icmp .ge 22, 3) := by decide +kernel
theorem dX4_init_93 : decode cX4_init 93 = .ok (.aload_n 0, 1) := by decide +kernel
theorem dX4_init_94 : decode cX4_init 94 = .ok (.getfield 16, 3) := by decide +kernel
theorem dX4_init_97 : decode cX4_init 97 = .ok (.iload_n 1, 1) := by decide +kernel
theorem dX4_init_98 : decode cX4_init 98 = .ok (.new 7, 3) := by decide +kernel
theorem dX4_init_101 : decode cX4_init 101 = .ok (.dup, 1) := by decide +kernel
theorem dX4_init_102 : decode cX4_init 102 = .ok (.invokespecial 9, 3) := by decide +kernel
theorem dX4_init_105 : decode cX4_init 105 = .ok (.aastore, 1) := by decide +kernel
theorem dX4_init_106 : decode cX4_init 106 = .ok (.iinc 1 1, 3) := by decide +kernel
theorem dX4_init_109 : decode cX4_init 109 = .ok (.goto (-22), 3) := by decide +kernel
theorem dX4_init_112 : decode cX4_init 112 = .ok (.iconst 0, 1) := by decide +kernel
theorem dX4_init_113 : decode cX4_init 113 = .ok (.istore_n 1, 1) := by decide +kernel
theorem dX4_init_114 : decode cX4_init 114 = .ok (.iload_n 1, 1) := by decide +kernel
theorem dX4_init_115 : decode cX4_init 115 = .ok (.iconst 2, 1) := by decide +kernel
theorem dX4_init_116 : decode cX4_init 116 = .ok (.if_icmp .ge 22, 3) := by decide +kernel
theorem dX4_init_119 : decode cX4_init 119 = .ok (.aload_n 0, 1) := by decide +kernel
theorem dX4_init_120 : decode cX4_init 120 = .ok (.getfield 24, 3) := by decide +kernel
theorem dX4_init_123 : decode cX4_init 123 = .ok (.iload_n 1, 1) := by decide +kernel
theorem dX4_init_124 : decode cX4_init 124 = .ok (.new 7, 3) := by decide +kernel
theorem dX4_init_127 : decode cX4_init 127 = .ok (.dup, 1) := by decide +kernel
theorem dX4_init_128 : decode cX4_init 128 = .ok (.invokespecial 9, 3) := by decide +kernel
theorem dX4_init_131 : decode cX4_init 131 = .ok (.aastore, 1) := by decide +kernel
theorem dX4_init_132 : decode cX4_init 132 = .ok (.iinc 1 1, 3) := by decide +kernel
theorem dX4_init_135 : decode cX4_init 135 = .ok (.goto (-21), 3) := by decide +kernel
theorem dX4_init_138 : decode cX4_init 138 = .ok (.return_, 1) := by decide +kernel
theorem dX4_width_0 : decode cX4_width 0 = .ok (.iload_n 1, 1) := by decide +kernel
theorem dX4_width_1 : decode cX4_width 1 = .ok (.invokestatic 56, 3) := by decide +kernel
theorem dX4_width_4 : decode cX4_width 4 = .ok (.iload_n 2, 1) := by decide +kernel
theorem dX4_width_5 : decode cX4_width 5 = .ok (.bipush 13, 2) := by decide +kernel
theorem dX4_width_7 : decode cX4_width 7 = .ok (.bipush 30, 2) := by decide +kernel
theorem dX4_width_9 : decode cX4_width 9 = .ok (.invokestatic 60, 3) := by decide +kernel
theorem dX4_width_12 : decode cX4_width 12 = .ok (.aload_n 0, 1) := by decide +kernel
theorem dX4_width_13 : decode cX4_width 13 = .ok (.invokevirtual 64, 3) := by decide +kernel
theorem dX4_width_16 : decode cX4_width 16 = .ok (.aload_n 0, 1) := by decide +kernel
theorem dX4_width_17 : decode cX4_width 17 = .ok (.getfield 10, 3) := by decide +kernel
theorem dX4_width_20 : decode cX4_width 20 = .ok (.getfield 67, 3) := by decide +kernel
theorem dX4_width_23 : decode cX4_width 23 = .ok (.iload_n 1, 1) := by decide +kernel
theorem dX4_width_24 : decode cX4_width 24 = .ok (.iaload, 1) := by decide +kernel
theorem dX4_width_25 : decode cX4_width 25 = .ok (.istore_n 3, 1) := by decide +kernel
theorem dX4_width_26 : decode cX4_width 26 = .ok (.aload_n 0, 1) := by decide +kernel
theorem dX4_width_27 : decode cX4_width 27 = .ok (.getfield 10, 3) := by decide +kernel
theorem dX4_width_30 : decode cX4_width 30 = .ok (.getfield 67, 3) := by decide +kernel
theorem dX4_width_33 : decode cX4_width 33 = .ok (.iload_n 1, 1) := by decide +kernel
theorem dX4_width_34 : decode cX4_width 34 = .ok (.iload_n 2, 1) := by decide +kernel
theorem dX4_width_35 : decode cX4_width 35 = .ok (.iastore, 1) := by decide +kernel
theorem dX4_width_36 : decode cX4_width 36 = .ok (.iload_n 3, 1) := by decide +kernel
theorem dX4_width_37 : decode cX4_width 37 = .ok (.ireturn, 1) := by decide +kernel
theorem dX4_shape_0 : decode cX4_shape 0 = .ok (.iload_n 1, 1) := by decide +kernel
theorem dX4_shape_1 : decode cX4_shape 1 = .ok (.invokestatic 56, 3) := by decide +kernel
theorem dX4_shape_4 : decode cX4_shape 4 = .ok (.iload_n 2, 1) := by decide +kernel
theorem dX4_shape_5 : decode cX4_shape 5 = .ok (.iconst 0, 1) := by decide +kernel
theorem dX4_shape_6 : decode cX4_shape 6 = .ok (.iconst 3, 1) := by decide +kernel
theorem dX4_shape_7 : decode cX4_shape 7 = .ok (.invokestatic 60, 3) := by decide +kernel
theorem dX4_shape_10 : decode cX4_shape 10 = .ok (.iload_n 3, 1) := by decide +kernel
theorem dX4_shape_11 : decode cX4_shape 11 = .ok (.iconst 0, 1) := by decide +kernel
theorem dX4_shape_12 : decode cX4_shape 12 = .ok (.iconst 3, 1) := by decide +kernel
theorem dX4_shape_13 : decode cX4_shape 13 = .ok (.invokestatic 60, 3) := by decide +kernel
theorem dX4_shape_16 : decode cX4_shape 16 = .ok (.aload_n 0, 1) := by decide +kernel
theorem dX4_shape_17 : decode cX4_shape 17 = .ok (.invokevirtual 64, 3) := by decide +kernel
theorem dX4_shape_20 : decode cX4_shape 20 = .ok (.iconst 4, 1) := by decide +kernel
theorem dX4_shape_21 : decode cX4_shape 21 = .ok (.aload_n 0, 1) := by decide +kernel
theorem dX4_shape_22 : decode cX4_shape 22 = .ok (.getfield 10, 3) := by decide +kernel
theorem dX4_shape_25 : decode cX4_shape 25 = .ok (.getfield 70, 3) := by decide +kernel
theorem dX4_shape_28 : decode cX4_shape 28 = .ok (.iload_n 1, 1) := by decide +kernel
theorem dX4_shape_29 : decode cX4_shape 29 = .ok (.iaload, 1) := by decide +kernel
theorem dX4_shape_30 : decode cX4_shape 30 = .ok (.imul, 1) := by decide +kernel
theorem dX4_shape_31 : decode cX4_shape 31 = .ok (.aload_n 0, 1) := by decide +kernel
theorem dX4_shape_32 : decode cX4_shape 32 = .ok (.getfield 10, 3) := by decide +kernel
theorem dX4_shape_35 : decode cX4_shape 35 = .ok (.getfield 73, 3) := by decide +kernel
theorem dX4_shape_38 : decode cX4_shape 38 = .ok (.iload_n 1, 1) := by decide +kernel
theorem dX4_shape_39 : decode cX4_shape 39 = .ok (.iaload, 1) := by decide +kernel
theorem dX4_shape_40 : decode cX4_shape 40 = .ok (.iadd, 1) := by decide +kernel
theorem dX4_shape_41 : decode cX4_shape 41 = .ok (.istore 4, 2) := by decide +kernel
theorem dX4_shape_43 : decode cX4_shape 43 = .ok (.aload_n 0, 1) := by decide +kernel
theorem dX4_shape_44 : decode cX4_shape 44 = .ok (.getfield 10, 3) := by decide +kernel
theorem dX4_shape_47 : decode cX4_shape 47 = .ok (.getfield 70, 3) := by decide +kernel
theorem dX4_shape_50 : decode cX4_shape 50 = .ok (.iload_n 1, 1) := by decide +kernel
theorem dX4_shape_51 : decode cX4_shape 51 = .ok (.iload_n 2, 1) := by decide +kernel
theorem dX4_shape_52 : decode cX4_shape 52 = .ok (.iastore, 1) := by decide +kernel
theorem dX4_shape_53 : decode cX4_shape 53 = .ok (.aload_n 0, 1) := by decide +kernel
theorem dX4_shape_54 : decode cX4_shape 54 = .ok (.getfield 10, 3) := by decide +kernel
theorem dX4_shape_57 : decode cX4_shape 57 = .ok (.getfield 73, 3) := by decide +kernel
theorem dX4_shape_60 : decode cX4_shape 60 = .ok (.iload_n 1, 1) := by decide +kernel
theorem dX4_shape_61 : decode cX4_shape 61 = .ok (.iload_n 3, 1) := by decide +kernel
theorem dX4_shape_62 : decode cX4_shape 62 = .ok (.iastore, 1) := by decide +kernel
theorem dX4_shape_63 : decode cX4_shape 63 = .ok (.aload_n 0, 1) := by decide +kernel
theorem dX4_shape_64 : decode cX4_shape 64 = .ok (.getfield 10, 3) := by decide +kernel
theorem dX4_shape_67 : decode cX4_shape 67 = .ok (.invokevirtual 76, 3) := by decide +kernel
theorem dX4_shape_70 : decode cX4_shape 70 = .ok (.iload 4, 2) := by decide +kernel
theorem dX4_shape_72 : decode cX4_shape 72 = .ok (.ireturn, 1) := by decide +kernel
theorem dX4_base_0 : decode cX4_base 0 = .ok (.iload_n 1, 1) := by decide +kernel
theorem dX4_base_1 : decode cX4_base 1 = .ok (.iconst 4, 1) := by decide +kernel
theorem dX4_base_2 : decode cX4_base 2 = .ok (.invokestatic 79, 3) := by decide +kernel
theorem dX4_base_5 : decode cX4_base 5 = .ok (.iload_n 2, 1) := by decide +kernel
theorem dX4_base_6 : decode cX4_base 6 = .ok (.iconst 4, 1) := by decide +kernel
theorem dX4_base_7 : decode cX4_base 7 = .ok (.invokestatic 79, 3) := by decide +kernel
theorem dX4_base_10 : decode cX4_base 10 = .ok (.iload_n 3, 1) := by decide +kernel
theorem dX4_base_11 : decode cX4_base 11 = .ok (.bipush (-12), 2) := by decide +kernel
theorem dX4_base_13 : decode cX4_base 13 = .ok (.bipush 12, 2) := by decide +kernel
theorem dX4_base_15 : decode cX4_base 15 = .ok (.invokestatic 60, 3) := by decide +kernel
theorem dX4_base_18 : decode cX4_base 18 = .ok (.aload_n 0, 1) := by decide +kernel
theorem dX4_base_19 : decode cX4_base 19 = .ok (.invokevirtual 64, 3) := by decide +kernel
theorem dX4_base_22 : decode cX4_base 22 = .ok (.iconst 4, 1) := by decide +kernel
theorem dX4_base_23 : decode cX4_base 23 = .ok (.iload_n 1, 1) := by decide +kernel
theorem dX4_base_24 : decode cX4_base 24 = .ok (.imul, 1) := by decide +kernel
theorem dX4_base_25 : decode cX4_base 25 = .ok (.iload_n 2, 1) := by decide +kernel
theorem dX4_base_26 : decode cX4_base 26 = .ok (.iadd, 1) := by decide +kernel
theorem dX4_base_27 : decode cX4_base 27 = .ok (.istore 4, 2) := by decide +kernel
theorem dX4_base_29 : decode cX4_base 29 = .ok (.aload_n 0, 1) := by decide +kernel
theorem dX4_base_30 : decode cX4_base 30 = .ok (.getfield 10, 3) := by decide +kernel
theorem dX4_base_33 : decode cX4_base 33 = .ok (.getfield 83, 3) := by decide +kernel
theorem dX4_base_36 : decode cX4_base 36 = .ok (.iload 4, 2) := by decide +kernel
theorem dX4_base_38 : decode cX4_base 38 = .ok (.iaload, 1) := by decide +kernel
theorem dX4_base_39 : decode cX4_base 39 = .ok (.istore 5, 2) := by decide +kernel
theorem dX4_base_41 : decode cX4_base 41 = .ok (.aload_n 0, 1) := by decide +kernel
theorem dX4_base_42 : decode cX4_base 42 = .ok (.getfield 10, 3) := by decide +kernel
theorem dX4_base_45 : decode cX4_base 45 = .ok (.getfield 83, 3) := by decide +kernel
theorem dX4_base_48 : decode cX4_base 48 = .ok (.iload 4, 2) := by decide +kernel
theorem dX4_base_50 : decode cX4_base 50 = .ok (.iload_n 3, 1) := by decide +kernel
theorem dX4_base_51 : decode cX4_base 51 = .ok (.iastore, 1) := by decide +kernel
theorem dX4_base_52 : decode cX4_base 52 = .ok (.aload_n 0, 1) := by decide +kernel
theorem dX4_base_53 : decode cX4_base 53 = .ok (.getfield 10, 3) := by decide +kernel
theorem dX4_base_56 : decode cX4_base 56 = .ok (.invokevirtual 76, 3) := by decide +kernel
theorem dX4_base_59 : decode cX4_base 59 = .ok (.iload 5, 2) := by decide +kernel
theorem dX4_base_61 : decode cX4_base 61 = .ok (.bipush 100, 2) := by decide +kernel
theorem dX4_base_63 : decode cX4_base 63 = .ok (.iadd, 1) := by decide +kernel
theorem dX4_base_64 : decode cX4_base 64 = .ok (.ireturn, 1) := by decide +kernel
theorem dX4_set_0 : decode cX4_set 0 = .ok (.iload_n 1, 1) := by decide +kernel
theorem dX4_set_1 : decode cX4_set 1 = .ok (.iconst 4, 1) := by decide +kernel
theorem dX4_set_2 : decode cX4_set 2 = .ok (.invokestatic 79, 3) := by decide +kernel
theorem dX4_set_5 : decode cX4_set 5 = .ok (.iload_n 2, 1) := by decide +kernel
theorem dX4_set_6 : decode cX4_set 6 = .ok (.getstatic 86, 3) := by decide +kernel
theorem dX4_set_9 : decode cX4_set 9 = .ok (.iload_n 1, 1) := by decide +kernel
theorem dX4_set_10 : decode cX4_set 10 = .ok (.iaload, 1) := by decide +kernel
theorem dX4_set_11 : decode cX4_set 11 = .ok (.getstatic 89, 3) := by decide +kernel
theorem dX4_set_14 : decode cX4_set 14 = .ok (.iload_n 1, 1) := by decide +kernel
theorem dX4_set_15 : decode cX4_set 15 = .ok (.iaload, 1) := by decide +kernel
theorem dX4_set_16 : decode cX4_set 16 = .ok (.invokestatic 60, 3) := by decide +kernel
theorem dX4_set_19 : decode cX4_set 19 = .ok (.aload_n 0, 1) := by decide +kernel
theorem dX4_set_20 : decode cX4_set 20 = .ok (.invokevirtual 64, 3) := by decide +kernel
theorem dX4_set_23 : decode cX4_set 23 = .ok (.aload_n 0, 1) := by decide +kernel
theorem dX4_set_24 : decode cX4_set 24 = .ok (.getfield 10, 3) := by decide +kernel
theorem dX4_set_27 : decode cX4_set 27 = .ok (.getfield 92, 3) := by decide +kernel
theorem dX4_set_30 : decode cX4_set 30 = .ok (.iload_n 1, 1) := by decide +kernel
theorem dX4_set_31 : decode cX4_set 31 = .ok (.iaload, 1) := by decide +kernel
theorem dX4_set_32 : decode cX4_set 32 = .ok (.istore_n 3, 1) := by decide +kernel
theorem dX4_set_33 : decode cX4_set 33 = .ok (.aload_n 0, 1) := by decide +kernel
theorem dX4_set_34 : decode cX4_set 34 = .ok (.getfield 10, 3) := by decide +kernel
theorem dX4_set_37 : decode cX4_set 37 = .ok (.getfield 92, 3) := by decide +kernel
theorem dX4_set_40 : decode cX4_set 40 = .ok (.iload_n 1, 1) := by decide +kernel
theorem dX4_set_41 : decode cX4_set 41 = .ok (.iload_n 2, 1) := by decide +kernel
theorem dX4_set_42 : decode cX4_set 42 = .ok (.iastore, 1) := by decide +kernel
theorem dX4_set_43 : decode cX4_set 43 = .ok (.iload_n 1, 1) := by decide +kernel
theorem dX4_set_44 : decode cX4_set 44 = .ok (.ifCond .eq 8, 3) := by decide +kernel
theorem dX4_set_47 : decode cX4_set 47 = .ok (.iload_n 1, 1) := by decide +kernel
theorem dX4_set_48 : decode cX4_set 48 = .ok (.iconst 1, 1) := by decide +kernel
theorem dX4_set_49 : decode cX4_set 49 = .ok (.if_icmp .ne 10, 3) := by decide +kernel
theorem dX4_set_52 : decode cX4_set 52 = .ok (.aload_n 0, 1) := by decide +kernel
theorem dX4_set_53 : decode cX4_set 53 = .ok (.getfield 10, 3) := by decide +kernel
theorem dX4_set_56 : decode cX4_set 56 = .ok (.invokevirtual 76, 3) := by decide +kernel
theorem dX4_set_59 : decode cX4_set 59 = .ok (.iload_n 3, 1) := by decide +kernel
theorem dX4_set_60 : decode cX4_set 60 = .ok (.ireturn, 1) := by decide +kernel
theorem dX4_circle_0 : decode cX4_circle 0 = .ok (.iload_n 1, 1) := by decide +kernel
theorem dX4_circle_1 : decode cX4_circle 1 = .ok (.invokestatic 56, 3) := by decide +kernel
theorem dX4_circle_4 : decode cX4_circle 4 = .ok (.iload_n 2, 1) := by decide +kernel
theorem dX4_circle_5 : decode cX4_circle 5 = .ok (.invokestatic 56, 3) := by decide +kernel
theorem dX4_circle_8 : decode cX4_circle 8 = .ok (.iload_n 3, 1) := by decide +kernel
theorem dX4_circle_9 : decode cX4_circle 9 = .ok (.invokestatic 95, 3) := by decide +kernel
theorem dX4_circle_12 : decode cX4_circle 12 = .ok (.aload_n 0, 1) := by decide +kernel
theorem dX4_circle_13 : decode cX4_circle 13 = .ok (.bipush 10, 2) := by decide +kernel
theorem dX4_circle_15 : decode cX4_circle 15 = .ok (.iload_n 1, 1) := by decide +kernel
theorem dX4_circle_16 : decode cX4_circle 16 = .ok (.imul, 1) := by decide +kernel
theorem dX4_circle_17 : decode cX4_circle 17 = .ok (.iload_n 2, 1) := by decide +kernel
theorem dX4_circle_18 : decode cX4_circle 18 = .ok (.iadd, 1) := by decide +kernel
theorem dX4_circle_19 : decode cX4_circle 19 = .ok (.iload_n 3, 1) := by decide +kernel
theorem dX4_circle_20 : decode cX4_circle 20 = .ok (.invokevirtual 98, 3) := by decide +kernel
theorem dX4_circle_23 : decode cX4_circle 23 = .ok (.ireturn, 1) := by decide +kernel
theorem dX4_forget_0 : decode cX4_forget 0 = .ok (.iload_n 1, 1) := by decide +kernel
theorem dX4_forget_1 : decode cX4_forget 1 = .ok (.aload_n 0, 1) := by decide +kernel
theorem dX4_forget_2 : decode cX4_forget 2 = .ok (.getfield 10, 3) := by decide +kernel
theorem dX4_forget_5 : decode cX4_forget 5 = .ok (.getfield 102, 3) := by decide +kernel
theorem dX4_forget_8 : decode cX4_forget 8 = .ok (.invokestatic 79, 3) := by decide +kernel
theorem dX4_forget_11 : decode cX4_forget 11 = .ok (.aload_n 0, 1) := by decide +kernel
theorem dX4_forget_12 : decode cX4_forget 12 = .ok (.invokevirtual 64, 3) := by decide +kernel
theorem dX4_forget_15 : decode cX4_forget 15 = .ok (.aload_n 0, 1) := by decide +kernel
theorem dX4_forget_16 : decode cX4_forget 16 = .ok (.iload_n 1, 1) := by decide +kernel
theorem dX4_forget_17 : decode cX4_forget 17 = .ok (.invokevirtual 105, 3) := by decide +kernel
theorem dX4_forget_20 : decode cX4_forget 20 = .ok (.istore_n 2, 1) := by decide +kernel
theorem dX4_forget_21 : decode cX4_forget 21 = .ok (.aload_n 0, 1) := by decide +kernel
theorem dX4_forget_22 : decode cX4_forget 22 = .ok (.getfield 10, 3) := by decide +kernel
theorem dX4_forget_25 : decode cX4_forget 25 = .ok (.iload_n 1, 1) := by decide +kernel
theorem dX4_forget_26 : decode cX4_forget 26 = .ok (.invokevirtual 109, 3) := by decide +kernel
theorem dX4_forget_29 : decode cX4_forget 29 = .ok (.aload_n 0, 1) := by decide +kernel
theorem dX4_forget_30 : decode cX4_forget 30 = .ok (.getfield 10, 3) := by decide +kernel
theorem dX4_forget_33 : decode cX4_forget 33 = .ok (.dup, 1) := by decide +kernel
theorem dX4_forget_34 : decode cX4_forget 34 = .ok (.getfield 112, 3) := by decide +kernel
theorem dX4_forget_37 : decode cX4_forget 37 = .ok (.iconst 1, 1) := by decide +kernel
theorem dX4_forget_38 : decode cX4_forget 38 = .ok (.iadd, 1) := by decide +kernel
theorem dX4_forget_39 : decode cX4_forget 39 = .ok (.putfield 112, 3) := by decide +kernel
theorem dX4_forget_42 : decode cX4_forget 42 = .ok (.aload_n 0, 1) := by decide +kernel
theorem dX4_forget_43 : decode cX4_forget 43 = .ok (.getfield 10, 3) := by decide +kernel
theorem dX4_forget_46 : decode cX4_forget 46 = .ok (.invokevirtual 76, 3) := by decide +kernel
theorem dX4_forget_49 : decode cX4_forget 49 = .ok (.iload_n 2, 1) := by decide +kernel
theorem dX4_forget_50 : decode cX4_forget 50 = .ok (.ireturn, 1) := by decide +kernel
theorem dX4_append_0 : decode cX4_append 0 = .ok (.iload_n 1, 1) := by decide +kernel
theorem dX4_append_1 : decode cX4_append 1 = .ok (.bipush 33, 2) := by decide +kernel
theorem dX4_append_3 : decode cX4_append 3 = .ok (.bipush 126, 2) := by decide +kernel
theorem dX4_append_5 : decode cX4_append 5 = .ok (.invokestatic 60, 3) := by decide +kernel
theorem dX4_append_8 : decode cX4_append 8 = .ok (.aload_n 0, 1) := by decide +kernel
theorem dX4_append_9 : decode cX4_append 9 = .ok (.getfield 34, 3) := by decide +kernel
theorem dX4_append_12 : decode cX4_append 12 = .ok (.getfield 115, 3) := by decide +kernel
theorem dX4_append_15 : decode cX4_append 15 = .ok (.bipush 60, 2) := by decide +kernel
theorem dX4_append_17 : decode cX4_append 17 = .ok (.if_icmp .lt 13, 3) := by decide +kernel
theorem dX4_append_20 : decode cX4_append 20 = .ok (.new 118, 3) := by decide +kernel
theorem dX4_append_23 : decode cX4_append 23 = .ok (.dup, 1) := by decide +kernel
theorem dX4_append_24 : decode cX4_append 24 = .ok (.ldc 120, 2) := by decide +kernel
theorem dX4_append_26 : decode cX4_append 26 = .ok (.invokespecial 122, 3) := by decide +kernel
theorem dX4_append_29 : decode cX4_append 29 = .ok (.athrow, 1) := by decide +kernel
theorem dX4_append_30 : decode cX4_append 30 = .ok (.aload_n 0, 1) := by decide +kernel
theorem dX4_append_31 : decode cX4_append 31 = .ok (.getfield 34, 3) := by decide +kernel
theorem dX4_append_34 : decode cX4_append 34 = .ok (.getfield 125, 3) := by decide +kernel
theorem dX4_append_37 : decode cX4_append 37 = .ok (.aload_n 0, 1) := by decide +kernel
theorem dX4_append_38 : decode cX4_append 38 = .ok (.getfield 34, 3) := by decide +kernel
theorem dX4_append_41 : decode cX4_append 41 = .ok (.getfield 115, 3) := by decide +kernel
theorem dX4_append_44 : decode cX4_append 44 = .ok (.iload_n 1, 1) := by decide +kernel
theorem dX4_append_45 : decode cX4_append 45 = .ok (.iastore, 1) := by decide +kernel
theorem dX4_append_46 : decode cX4_append 46 = .ok (.aload_n 0, 1) := by decide +kernel
theorem dX4_append_47 : decode cX4_append 47 = .ok (.getfield 34, 3) := by decide +kernel
theorem dX4_append_50 : decode cX4_append 50 = .ok (.dup, 1) := by decide +kernel
theorem dX4_append_51 : decode cX4_append 51 = .ok (.getfield 115, 3) := by decide +kernel
theorem dX4_append_54 : decode cX4_append 54 = .ok (.iconst 1, 1) := by decide +kernel
theorem dX4_append_55 : decode cX4_append 55 = .ok (.iadd, 1) := by decide +kernel
theorem dX4_append_56 : decode cX4_append 56 = .ok (.putfield 115, 3) := by decide +kernel
theorem dX4_append_59 : decode cX4_append 59 = .ok (.aload_n 0, 1) := by decide +kernel
theorem dX4_append_60 : decode cX4_append 60 = .ok (.getfield 34, 3) := by decide +kernel
theorem dX4_append_63 : decode cX4_append 63 = .ok (.getfield 115, 3) := by decide +kernel
theorem dX4_append_66 : decode cX4_append 66 = .ok (.ireturn, 1) := by decide +kernel
theorem dX4_clearBuffer_0 : decode cX4_clearBuffer 0 = .ok (.aload_n 0, 1) := by decide +kernel
theorem dX4_clearBuffer_1 : decode cX4_clearBuffer 1 = .ok (.getfield 34, 3) := by decide +kernel
theorem dX4_clearBuffer_4 : decode cX4_clearBuffer 4 = .ok (.getfield 115, 3) := by decide +kernel
theorem dX4_clearBuffer_7 : decode cX4_clearBuffer 7 = .ok (.istore_n 1, 1) := by decide +kernel
theorem dX4_clearBuffer_8 : decode cX4_clearBuffer 8 = .ok (.aload_n 0, 1) := by decide +kernel
theorem dX4_clearBuffer_9 : decode cX4_clearBuffer 9 = .ok (.getfield 34, 3) := by decide +kernel
theorem dX4_clearBuffer_12 : decode cX4_clearBuffer 12 = .ok (.iconst 0, 1) := by decide +kernel
theorem dX4_clearBuffer_13 : decode cX4_clearBuffer 13 = .ok (.putfield 115, 3) := by decide +kernel
theorem dX4_clearBuffer_16 : decode cX4_clearBuffer 16 = .ok (.iload_n 1, 1) := by decide +kernel
theorem dX4_clearBuffer_17 : decode cX4_clearBuffer 17 = .ok (.ireturn, 1) := by decide +kernel
theorem dX4_firstError_0 : decode cX4_firstError 0 = .ok (.aload_n 0, 1) := by decide +kernel
theorem dX4_firstError_1 : decode cX4_firstError 1 = .ok (.getfield 34, 3) := by decide +kernel
theorem dX4_firstError_4 : decode cX4_firstError 4 = .ok (.invokevirtual 128, 3) := by decide +kernel
theorem dX4_firstError_7 : decode cX4_firstError 7 = .ok (.ireturn, 1) := by decide +kernel
theorem dX4_keep_0 : decode cX4_keep 0 = .ok (.iload_n 1, 1) := by decide +kernel
theorem dX4_keep_1 : decode cX4_keep 1 = .ok (.iconst 0, 1) := by decide +kernel
theorem dX4_keep_2 : decode cX4_keep 2 = .ok (.iconst 1, 1) := by decide +kernel
theorem dX4_keep_3 : decode cX4_keep 3 = .ok (.invokestatic 60, 3) := by decide +kernel
theorem dX4_keep_6 : decode cX4_keep 6 = .ok (.aload_n 0, 1) := by decide +kernel
theorem dX4_keep_7 : decode cX4_keep 7 = .ok (.getfield 24, 3) := by decide +kernel
theorem dX4_keep_10 : decode cX4_keep 10 = .ok (.iload_n 1, 1) := by decide +kernel
theorem dX4_keep_11 : decode cX4_keep 11 = .ok (.aaload, 1) := by decide +kernel
theorem dX4_keep_12 : decode cX4_keep 12 = .ok (.aload_n 0, 1) := by decide +kernel
theorem dX4_keep_13 : decode cX4_keep 13 = .ok (.getfield 10, 3) := by decide +kernel
theorem dX4_keep_16 : decode cX4_keep 16 = .ok (.invokevirtual 150, 3) := by decide +kernel
theorem dX4_keep_19 : decode cX4_keep 19 = .ok (.aload_n 0, 1) := by decide +kernel
theorem dX4_keep_20 : decode cX4_keep 20 = .ok (.getfield 27, 3) := by decide +kernel
theorem dX4_keep_23 : decode cX4_keep 23 = .ok (.iload_n 1, 1) := by decide +kernel
theorem dX4_keep_24 : decode cX4_keep 24 = .ok (.iconst 1, 1) := by decide +kernel
theorem dX4_keep_25 : decode cX4_keep 25 = .ok (.bastore, 1) := by decide +kernel
theorem dX4_keep_26 : decode cX4_keep 26 = .ok (.aload_n 0, 1) := by decide +kernel
theorem dX4_keep_27 : decode cX4_keep 27 = .ok (.getfield 10, 3) := by decide +kernel
theorem dX4_keep_30 : decode cX4_keep 30 = .ok (.getfield 102, 3) := by decide +kernel
theorem dX4_keep_33 : decode cX4_keep 33 = .ok (.ireturn, 1) := by decide +kernel
theorem dX4_goBack_0 : decode cX4_goBack 0 = .ok (.iload_n 1, 1) := by decide +kernel
theorem dX4_goBack_1 : decode cX4_goBack 1 = .ok (.iconst 0, 1) := by decide +kernel
theorem dX4_goBack_2 : decode cX4_goBack 2 = .ok (.iconst 1, 1) := by decide +kernel
theorem dX4_goBack_3 : decode cX4_goBack 3 = .ok (.invokestatic 60, 3) := by decide +kernel
theorem dX4_goBack_6 : decode cX4_goBack 6 = .ok (.aload_n 0, 1) := by decide +kernel
theorem dX4_goBack_7 : decode cX4_goBack 7 = .ok (.getfield 27, 3) := by decide +kernel
theorem dX4_goBack_10 : decode cX4_goBack 10 = .ok (.iload_n 1, 1) := by decide +kernel
theorem dX4_goBack_11 : decode cX4_goBack 11 = .ok (.baload, 1) := by decide +kernel
theorem dX4_goBack_12 : decode cX4_goBack 12 = .ok (.ifCond .ne 13, 3) := by decide +kernel
theorem dX4_goBack_15 : decode cX4_goBack 15 = .ok (.new 118, 3) := by decide +kernel
theorem dX4_goBack_18 : decode cX4_goBack 18 = .ok (.dup, 1) := by decide +kernel
theorem dX4_goBack_19 : decode cX4_goBack 19 = .ok (.ldc 154, 2) := by decide +kernel
theorem dX4_goBack_21 : decode cX4_goBack 21 = .ok (.invokespecial 122, 3) := by decide +kernel
theorem dX4_goBack_24 : decode cX4_goBack 24 = .ok (.athrow, 1) := by decide +kernel
theorem dX4_goBack_25 : decode cX4_goBack 25 = .ok (.aload_n 0, 1) := by decide +kernel
theorem dX4_goBack_26 : decode cX4_goBack 26 = .ok (.invokevirtual 64, 3) := by decide +kernel
theorem dX4_goBack_29 : decode cX4_goBack 29 = .ok (.aload_n 0, 1) := by decide +kernel
theorem dX4_goBack_30 : decode cX4_goBack 30 = .ok (.getfield 10, 3) := by decide +kernel
theorem dX4_goBack_33 : decode cX4_goBack 33 = .ok (.aload_n 0, 1) := by decide +kernel
theorem dX4_goBack_34 : decode cX4_goBack 34 = .ok (.getfield 24, 3) := by decide +kernel
theorem dX4_goBack_37 : decode cX4_goBack 37 = .ok (.iload_n 1, 1) := by decide +kernel
theorem dX4_goBack_38 : decode cX4_goBack 38 = .ok (.aaload, 1) := by decide +kernel
theorem dX4_goBack_39 : decode cX4_goBack 39 = .ok (.invokevirtual 150, 3) := by decide +kernel
theorem dX4_goBack_42 : decode cX4_goBack 42 = .ok (.aload_n 0, 1) := by decide +kernel
theorem dX4_goBack_43 : decode cX4_goBack 43 = .ok (.getfield 10, 3) := by decide +kernel
theorem dX4_goBack_46 : decode cX4_goBack 46 = .ok (.getfield 102, 3) := by decide +kernel
theorem dX4_goBack_49 : decode cX4_goBack 49 = .ok (.ireturn, 1) := by decide +kernel
theorem dX4_letterOf_0 : decode cX4_letterOf 0 = .ok (.iload_n 1, 1) := by decide +kernel
theorem dX4_letterOf_1 : decode cX4_letterOf 1 = .ok (.invokestatic 56, 3) := by decide +kernel
theorem dX4_letterOf_4 : decode cX4_letterOf 4 = .ok (.iload_n 2, 1) := by decide +kernel
theorem dX4_letterOf_5 : decode cX4_letterOf 5 = .ok (.iconst 0, 1) := by decide +kernel
theorem dX4_letterOf_6 : decode cX4_letterOf 6 = .ok (.iconst 3, 1) := by decide +kernel
theorem dX4_letterOf_7 : decode cX4_letterOf 7 = .ok (.invokestatic 60, 3) := by decide +kernel
theorem dX4_letterOf_10 : decode cX4_letterOf 10 = .ok (.iload_n 2, 1) := by decide +kernel
theorem dX4_letterOf_11 : decode cX4_letterOf 11 = .ok (.tableswitch 55 0 2 #[25, 35, 45], 25) := by decide +kernel
theorem dX4_letterOf_36 : decode cX4_letterOf 36 = .ok (.aload_n 0, 1) := by decide +kernel
theorem dX4_letterOf_37 : decode cX4_letterOf 37 = .ok (.getfield 10, 3) := by decide +kernel
theorem dX4_letterOf_40 : decode cX4_letterOf 40 = .ok (.getfield 67, 3) := by decide +kernel
theorem dX4_letterOf_43 : decode cX4_letterOf 43 = .ok (.iload_n 1, 1) := by decide +kernel
theorem dX4_letterOf_44 : decode cX4_letterOf 44 = .ok (.iaload, 1) := by decide +kernel
theorem dX4_letterOf_45 : decode cX4_letterOf 45 = .ok (.ireturn, 1) := by decide +kernel
theorem dX4_letterOf_46 : decode cX4_letterOf 46 = .ok (.aload_n 0, 1) := by decide +kernel
theorem dX4_letterOf_47 : decode cX4_letterOf 47 = .ok (.getfield 10, 3) := by decide +kernel
theorem dX4_letterOf_50 : decode cX4_letterOf 50 = .ok (.getfield 70, 3) := by decide +kernel
theorem dX4_letterOf_53 : decode cX4_letterOf 53 = .ok (.iload_n 1, 1) := by decide +kernel
theorem dX4_letterOf_54 : decode cX4_letterOf 54 = .ok (.iaload, 1) := by decide +kernel
theorem dX4_letterOf_55 : decode cX4_letterOf 55 = .ok (.ireturn, 1) := by decide +kernel
theorem dX4_letterOf_56 : decode cX4_letterOf 56 = .ok (.aload_n 0, 1) := by decide +kernel
theorem dX4_letterOf_57 : decode cX4_letterOf 57 = .ok (.getfield 10, 3) := by decide +kernel
theorem dX4_letterOf_60 : decode cX4_letterOf 60 = .ok (.getfield 73, 3) := by decide +kernel
theorem dX4_letterOf_63 : decode cX4_letterOf 63 = .ok (.iload_n 1, 1) := by decide +kernel
theorem dX4_letterOf_64 : decode cX4_letterOf 64 = .ok (.iaload, 1) := by decide +kernel
theorem dX4_letterOf_65 : decode cX4_letterOf 65 = .ok (.ireturn, 1) := by decide +kernel
theorem dX4_letterOf_66 : decode cX4_letterOf 66 = .ok (.aload_n 0, 1) := by decide +kernel
theorem dX4_letterOf_67 : decode cX4_letterOf 67 = .ok (.getfield 10, 3) := by decide +kernel
theorem dX4_letterOf_70 : decode cX4_letterOf 70 = .ok (.iload_n 1, 1) := by decide +kernel
theorem dX4_letterOf_71 : decode cX4_letterOf 71 = .ok (.invokevirtual 158, 3) := by decide +kernel
theorem dX4_letterOf_74 : decode cX4_letterOf 74 = .ok (.ireturn, 1) := by decide +kernel
theorem dX4_pairOf_0 : decode cX4_pairOf 0 = .ok (.iload_n 1, 1) := by decide +kernel
theorem dX4_pairOf_1 : decode cX4_pairOf 1 = .ok (.invokestatic 56, 3) := by decide +kernel
theorem dX4_pairOf_4 : decode cX4_pairOf 4 = .ok (.iload_n 2, 1) := by decide +kernel
theorem dX4_pairOf_5 : decode cX4_pairOf 5 = .ok (.invokestatic 56, 3) := by decide +kernel
theorem dX4_pairOf_8 : decode cX4_pairOf 8 = .ok (.iload_n 3, 1) := by decide +kernel
theorem dX4_pairOf_9 : decode cX4_pairOf 9 = .ok (.iconst 0, 1) := by decide +kernel
theorem dX4_pairOf_10 : decode cX4_pairOf 10 = .ok (.iconst 4, 1) := by decide +kernel
theorem dX4_pairOf_11 : decode cX4_pairOf 11 = .ok (.invokestatic 60, 3) := by decide +kernel
theorem dX4_pairOf_14 : decode cX4_pairOf 14 = .ok (.bipush 10, 2) := by decide +kernel
theorem dX4_pairOf_16 : decode cX4_pairOf 16 = .ok (.iload_n 1, 1) := by decide +kernel
theorem dX4_pairOf_17 : decode cX4_pairOf 17 = .ok (.imul, 1) := by decide +kernel
theorem dX4_pairOf_18 : decode cX4_pairOf 18 = .ok (.iload_n 2, 1) := by decide +kernel
theorem dX4_pairOf_19 : decode cX4_pairOf 19 = .ok (.iadd, 1) := by decide +kernel
theorem dX4_pairOf_20 : decode cX4_pairOf 20 = .ok (.istore 4, 2) := by decide +kernel
theorem dX4_pairOf_22 : decode cX4_pairOf 22 = .ok (.iload_n 3, 1) := by decide +kernel
theorem dX4_pairOf_23 : decode cX4_pairOf 23 = .ok (.tableswitch 109 0 3 #[29, 49, 78, 95], 29) := by decide +kernel
theorem dX4_pairOf_52 : decode cX4_pairOf 52 = .ok (.aload_n 0, 1) := by decide +kernel
theorem dX4_pairOf_53 : decode cX4_pairOf 53 = .ok (.getfield 10, 3) := by decide +kernel
theorem dX4_pairOf_56 : decode cX4_pairOf 56 = .ok (.getfield 161, 3) := by decide +kernel
theorem dX4_pairOf_59 : decode cX4_pairOf 59 = .ok (.aload_n 0, 1) := by decide +kernel
theorem dX4_pairOf_60 : decode cX4_pairOf 60 = .ok (.getfield 10, 3) := by decide +kernel
theorem dX4_pairOf_63 : decode cX4_pairOf 63 = .ok (.iload 4, 2) := by decide +kernel
theorem dX4_pairOf_65 : decode cX4_pairOf 65 = .ok (.invokevirtual 164, 3) := by decide +kernel
theorem dX4_pairOf_68 : decode cX4_pairOf 68 = .ok (.bipush 100, 2) := by decide +kernel
theorem dX4_pairOf_70 : decode cX4_pairOf 70 = .ok (.iadd, 1) := by decide +kernel
theorem dX4_pairOf_71 : decode cX4_pairOf 71 = .ok (.ireturn, 1) := by decide +kernel
theorem dX4_pairOf_72 : decode cX4_pairOf 72 = .ok (.aload_n 0, 1) := by decide +kernel
theorem dX4_pairOf_73 : decode cX4_pairOf 73 = .ok (.getfield 41, 3) := by decide +kernel
theorem dX4_pairOf_76 : decode cX4_pairOf 76 = .ok (.aload_n 0, 1) := by decide +kernel
theorem dX4_pairOf_77 : decode cX4_pairOf 77 = .ok (.getfield 10, 3) := by decide +kernel
theorem dX4_pairOf_80 : decode cX4_pairOf 80 = .ok (.iconst (-1), 1) := by decide +kernel
theorem dX4_pairOf_81 : decode cX4_pairOf 81 = .ok (.invokevirtual 168, 3) := by decide +kernel
theorem dX4_pairOf_84 : decode cX4_pairOf 84 = .ok (.aload_n 0, 1) := by decide +kernel
theorem dX4_pairOf_85 : decode cX4_pairOf 85 = .ok (.getfield 41, 3) := by decide +kernel
theorem dX4_pairOf_88 : decode cX4_pairOf 88 = .ok (.aload_n 0, 1) := by decide +kernel
theorem dX4_pairOf_89 : decode cX4_pairOf 89 = .ok (.getfield 10, 3) := by decide +kernel
theorem dX4_pairOf_92 : decode cX4_pairOf 92 = .ok (.iload 4, 2) := by decide +kernel
theorem dX4_pairOf_94 : decode cX4_pairOf 94 = .ok (.invokevirtual 164, 3) := by decide +kernel
theorem dX4_pairOf_97 : decode cX4_pairOf 97 = .ok (.bipush 100, 2) := by decide +kernel
theorem dX4_pairOf_99 : decode cX4_pairOf 99 = .ok (.iadd, 1) := by decide +kernel
theorem dX4_pairOf_100 : decode cX4_pairOf 100 = .ok (.ireturn, 1) := by decide +kernel
theorem dX4_pairOf_101 : decode cX4_pairOf 101 = .ok (.aload_n 0, 1) := by decide +kernel
theorem dX4_pairOf_102 : decode cX4_pairOf 102 = .ok (.getfield 10, 3) := by decide +kernel
theorem dX4_pairOf_105 : decode cX4_pairOf 105 = .ok (.getfield 161, 3) := by decide +kernel
theorem dX4_pairOf_108 : decode cX4_pairOf 108 = .ok (.getfield 172, 3) := by decide +kernel
theorem dX4_pairOf_111 : decode cX4_pairOf 111 = .ok (.iload 4, 2) := by decide +kernel
theorem dX4_pairOf_113 : decode cX4_pairOf 113 = .ok (.iaload, 1) := by decide +kernel
theorem dX4_pairOf_114 : decode cX4_pairOf 114 = .ok (.bipush 100, 2) := by decide +kernel
theorem dX4_pairOf_116 : decode cX4_pairOf 116 = .ok (.iadd, 1) := by decide +kernel
theorem dX4_pairOf_117 : decode cX4_pairOf 117 = .ok (.ireturn, 1) := by decide +kernel
theorem dX4_pairOf_118 : decode cX4_pairOf 118 = .ok (.aload_n 0, 1) := by decide +kernel
theorem dX4_pairOf_119 : decode cX4_pairOf 119 = .ok (.getfield 10, 3) := by decide +kernel
theorem dX4_pairOf_122 : decode cX4_pairOf 122 = .ok (.getfield 161, 3) := by decide +kernel
theorem dX4_pairOf_125 : decode cX4_pairOf 125 = .ok (.getfield 175, 3) := by decide +kernel
theorem dX4_pairOf_128 : decode cX4_pairOf 128 = .ok (.iload 4, 2) := by decide +kernel
theorem dX4_pairOf_130 : decode cX4_pairOf 130 = .ok (.iaload, 1) := by decide +kernel
theorem dX4_pairOf_131 : decode cX4_pairOf 131 = .ok (.ireturn, 1) := by decide +kernel
theorem dX4_pairOf_132 : decode cX4_pairOf 132 = .ok (.aload_n 0, 1) := by decide +kernel
theorem dX4_pairOf_133 : decode cX4_pairOf 133 = .ok (.getfield 10, 3) := by decide +kernel
theorem dX4_pairOf_136 : decode cX4_pairOf 136 = .ok (.getfield 161, 3) := by decide +kernel
theorem dX4_pairOf_139 : decode cX4_pairOf 139 = .ok (.getfield 178, 3) := by decide +kernel
theorem dX4_pairOf_142 : decode cX4_pairOf 142 = .ok (.iload 4, 2) := by decide +kernel
theorem dX4_pairOf_144 : decode cX4_pairOf 144 = .ok (.iaload, 1) := by decide +kernel
theorem dX4_pairOf_145 : decode cX4_pairOf 145 = .ok (.ireturn, 1) := by decide +kernel
theorem dX4_shapesOf_0 : decode cX4_shapesOf 0 = .ok (.iload_n 1, 1) := by decide +kernel
theorem dX4_shapesOf_1 : decode cX4_shapesOf 1 = .ok (.iconst 4, 1) := by decide +kernel
theorem dX4_shapesOf_2 : decode cX4_shapesOf 2 = .ok (.invokestatic 79, 3) := by decide +kernel
theorem dX4_shapesOf_5 : decode cX4_shapesOf 5 = .ok (.iload_n 2, 1) := by decide +kernel
theorem dX4_shapesOf_6 : decode cX4_shapesOf 6 = .ok (.iconst 4, 1) := by decide +kernel
theorem dX4_shapesOf_7 : decode cX4_shapesOf 7 = .ok (.invokestatic 79, 3) := by decide +kernel
theorem dX4_shapesOf_10 : decode cX4_shapesOf 10 = .ok (.iload_n 3, 1) := by decide +kernel
theorem dX4_shapesOf_11 : decode cX4_shapesOf 11 = .ok (.iconst 0, 1) := by decide +kernel
theorem dX4_shapesOf_12 : decode cX4_shapesOf 12 = .ok (.iconst 3, 1) := by decide +kernel
theorem dX4_shapesOf_13 : decode cX4_shapesOf 13 = .ok (.invokestatic 60, 3) := by decide +kernel
theorem dX4_shapesOf_16 : decode cX4_shapesOf 16 = .ok (.iconst 4, 1) := by decide +kernel
theorem dX4_shapesOf_17 : decode cX4_shapesOf 17 = .ok (.iload_n 1, 1) := by decide +kernel
theorem dX4_shapesOf_18 : decode cX4_shapesOf 18 = .ok (.imul, 1) := by decide +kernel
theorem dX4_shapesOf_19 : decode cX4_shapesOf 19 = .ok (.iload_n 2, 1) := by decide +kernel
theorem dX4_shapesOf_20 : decode cX4_shapesOf 20 = .ok (.iadd, 1) := by decide +kernel
theorem dX4_shapesOf_21 : decode cX4_shapesOf 21 = .ok (.istore 4, 2) := by decide +kernel
theorem dX4_shapesOf_23 : decode cX4_shapesOf 23 = .ok (.iload_n 3, 1) := by decide +kernel
theorem dX4_shapesOf_24 : decode cX4_shapesOf 24 = .ok (.tableswitch 69 0 2 #[28, 45, 59], 28) := by decide +kernel
theorem dX4_shapesOf_52 : decode cX4_shapesOf 52 = .ok (.aload_n 0, 1) := by decide +kernel
theorem dX4_shapesOf_53 : decode cX4_shapesOf 53 = .ok (.getfield 10, 3) := by decide +kernel
theorem dX4_shapesOf_56 : decode cX4_shapesOf 56 = .ok (.getfield 161, 3) := by decide +kernel
theorem dX4_shapesOf_59 : decode cX4_shapesOf 59 = .ok (.getfield 181, 3) := by decide +kernel
theorem dX4_shapesOf_62 : decode cX4_shapesOf 62 = .ok (.iload 4, 2) := by decide +kernel
theorem dX4_shapesOf_64 : decode cX4_shapesOf 64 = .ok (.iaload, 1) := by decide +kernel
theorem dX4_shapesOf_65 : decode cX4_shapesOf 65 = .ok (.bipush 100, 2) := by decide +kernel
theorem dX4_shapesOf_67 : decode cX4_shapesOf 67 = .ok (.iadd, 1) := by decide +kernel
theorem dX4_shapesOf_68 : decode cX4_shapesOf 68 = .ok (.ireturn, 1) := by decide +kernel
theorem dX4_shapesOf_69 : decode cX4_shapesOf 69 = .ok (.aload_n 0, 1) := by decide +kernel
theorem dX4_shapesOf_70 : decode cX4_shapesOf 70 = .ok (.getfield 10, 3) := by decide +kernel
theorem dX4_shapesOf_73 : decode cX4_shapesOf 73 = .ok (.getfield 83, 3) := by decide +kernel
theorem dX4_shapesOf_76 : decode cX4_shapesOf 76 = .ok (.iload 4, 2) := by decide +kernel
theorem dX4_shapesOf_78 : decode cX4_shapesOf 78 = .ok (.iaload, 1) := by decide +kernel
theorem dX4_shapesOf_79 : decode cX4_shapesOf 79 = .ok (.bipush 100, 2) := by decide +kernel
theorem dX4_shapesOf_81 : decode cX4_shapesOf 81 = .ok (.iadd, 1) := by decide +kernel
theorem dX4_shapesOf_82 : decode cX4_shapesOf 82 = .ok (.ireturn, 1) := by decide +kernel
theorem dX4_shapesOf_83 : decode cX4_shapesOf 83 = .ok (.aload_n 0, 1) := by decide +kernel
theorem dX4_shapesOf_84 : decode cX4_shapesOf 84 = .ok (.getfield 10, 3) := by decide +kernel
theorem dX4_shapesOf_87 : decode cX4_shapesOf 87 = .ok (.iload 4, 2) := by decide +kernel
theorem dX4_shapesOf_89 : decode cX4_shapesOf 89 = .ok (.invokevirtual 184, 3) := by decide +kernel
theorem dX4_shapesOf_92 : decode cX4_shapesOf 92 = .ok (.ireturn, 1) := by decide +kernel
theorem dX4_shapesOf_93 : decode cX4_shapesOf 93 = .ok (.aload_n 0, 1) := by decide +kernel
theorem dX4_shapesOf_94 : decode cX4_shapesOf 94 = .ok (.getfield 10, 3) := by decide +kernel
theorem dX4_shapesOf_97 : decode cX4_shapesOf 97 = .ok (.iload 4, 2) := by decide +kernel
theorem dX4_shapesOf_99 : decode cX4_shapesOf 99 = .ok (.invokevirtual 187, 3) := by decide +kernel
theorem dX4_shapesOf_102 : decode cX4_shapesOf 102 = .ok (.ireturn, 1) := by decide +kernel
theorem dX4_lessonOf_0 : decode cX4_lessonOf 0 = .ok (.iload_n 1, 1) := by decide +kernel
theorem dX4_lessonOf_1 : decode cX4_lessonOf 1 = .ok (.aload_n 0, 1) := by decide +kernel
theorem dX4_lessonOf_2 : decode cX4_lessonOf 2 = .ok (.getfield 10, 3) := by decide +kernel
theorem dX4_lessonOf_5 : decode cX4_lessonOf 5 = .ok (.getfield 102, 3) := by decide +kernel
theorem dX4_lessonOf_8 : decode cX4_lessonOf 8 = .ok (.invokestatic 79, 3) := by decide +kernel
theorem dX4_lessonOf_11 : decode cX4_lessonOf 11 = .ok (.iload_n 2, 1) := by decide +kernel
theorem dX4_lessonOf_12 : decode cX4_lessonOf 12 = .ok (.iconst 0, 1) := by decide +kernel
theorem dX4_lessonOf_13 : decode cX4_lessonOf 13 = .ok (.iconst 3, 1) := by decide +kernel
theorem dX4_lessonOf_14 : decode cX4_lessonOf 14 = .ok (.invokestatic 60, 3) := by decide +kernel
theorem dX4_lessonOf_17 : decode cX4_lessonOf 17 = .ok (.iload_n 2, 1) := by decide +kernel
theorem dX4_lessonOf_18 : decode cX4_lessonOf 18 = .ok (.tableswitch 71 0 2 #[26, 39, 52], 26) := by decide +kernel
theorem dX4_lessonOf_44 : decode cX4_lessonOf 44 = .ok (.aload_n 0, 1) := by decide +kernel
theorem dX4_lessonOf_45 : decode cX4_lessonOf 45 = .ok (.getfield 10, 3) := by decide +kernel
theorem dX4_lessonOf_48 : decode cX4_lessonOf 48 = .ok (.getfield 190, 3) := by decide +kernel
theorem dX4_lessonOf_51 : decode cX4_lessonOf 51 = .ok (.iload_n 1, 1) := by decide +kernel
theorem dX4_lessonOf_52 : decode cX4_lessonOf 52 = .ok (.iaload, 1) := by decide +kernel
theorem dX4_lessonOf_53 : decode cX4_lessonOf 53 = .ok (.bipush 10, 2) := by decide +kernel
theorem dX4_lessonOf_55 : decode cX4_lessonOf 55 = .ok (.idiv, 1) := by decide +kernel
theorem dX4_lessonOf_56 : decode cX4_lessonOf 56 = .ok (.ireturn, 1) := by decide +kernel
theorem dX4_lessonOf_57 : decode cX4_lessonOf 57 = .ok (.aload_n 0, 1) := by decide +kernel
theorem dX4_lessonOf_58 : decode cX4_lessonOf 58 = .ok (.getfield 10, 3) := by decide +kernel
theorem dX4_lessonOf_61 : decode cX4_lessonOf 61 = .ok (.getfield 190, 3) := by decide +kernel
theorem dX4_lessonOf_64 : decode cX4_lessonOf 64 = .ok (.iload_n 1, 1) := by decide +kernel
theorem dX4_lessonOf_65 : decode cX4_lessonOf 65 = .ok (.iaload, 1) := by decide +kernel
theorem dX4_lessonOf_66 : decode cX4_lessonOf 66 = .ok (.bipush 10, 2) := by decide +kernel
theorem dX4_lessonOf_68 : decode cX4_lessonOf 68 = .ok (.irem, 1) := by decide +kernel
theorem dX4_lessonOf_69 : decode cX4_lessonOf 69 = .ok (.ireturn, 1) := by decide +kernel
theorem dX4_lessonOf_70 : decode cX4_lessonOf 70 = .ok (.aload_n 0, 1) := by decide +kernel
theorem dX4_lessonOf_71 : decode cX4_lessonOf 71 = .ok (.getfield 10, 3) := by decide +kernel
theorem dX4_lessonOf_74 : decode cX4_lessonOf 74 = .ok (.getfield 193, 3) := by decide +kernel
theorem dX4_lessonOf_77 : decode cX4_lessonOf 77 = .ok (.iload_n 1, 1) := by decide +kernel
theorem dX4_lessonOf_78 : decode cX4_lessonOf 78 = .ok (.iaload, 1) := by decide +kernel
theorem dX4_lessonOf_79 : decode cX4_lessonOf 79 = .ok (.iconst 1, 1) := by decide +kernel
theorem dX4_lessonOf_80 : decode cX4_lessonOf 80 = .ok (.if_icmp .ne 7, 3) := by decide +kernel
theorem dX4_lessonOf_83 : decode cX4_lessonOf 83 = .ok (.iconst 1, 1) := by decide +kernel
theorem dX4_lessonOf_84 : decode cX4_lessonOf 84 = .ok (.goto 4, 3) := by decide +kernel
theorem dX4_lessonOf_87 : decode cX4_lessonOf 87 = .ok (.iconst 0, 1) := by decide +kernel
theorem dX4_lessonOf_88 : decode cX4_lessonOf 88 = .ok (.ireturn, 1) := by decide +kernel
theorem dX4_lessonOf_89 : decode cX4_lessonOf 89 = .ok (.aload_n 0, 1) := by decide +kernel
theorem dX4_lessonOf_90 : decode cX4_lessonOf 90 = .ok (.getfield 10, 3) := by decide +kernel
theorem dX4_lessonOf_93 : decode cX4_lessonOf 93 = .ok (.getfield 161, 3) := by decide +kernel
theorem dX4_lessonOf_96 : decode cX4_lessonOf 96 = .ok (.getfield 196, 3) := by decide +kernel
theorem dX4_lessonOf_99 : decode cX4_lessonOf 99 = .ok (.iload_n 1, 1) := by decide +kernel
theorem dX4_lessonOf_100 : decode cX4_lessonOf 100 = .ok (.iaload, 1) := by decide +kernel
theorem dX4_lessonOf_101 : decode cX4_lessonOf 101 = .ok (.ireturn, 1) := by decide +kernel
theorem dX4_count_0 : decode cX4_count 0 = .ok (.iload_n 1, 1) := by decide +kernel
theorem dX4_count_1 : decode cX4_count 1 = .ok (.iconst 0, 1) := by decide +kernel
theorem dX4_count_2 : decode cX4_count 2 = .ok (.bipush 7, 2) := by decide +kernel
theorem dX4_count_4 : decode cX4_count 4 = .ok (.invokestatic 60, 3) := by decide +kernel
theorem dX4_count_7 : decode cX4_count 7 = .ok (.iload_n 1, 1) := by decide +kernel
theorem dX4_count_8 : decode cX4_count 8 = .ok (.tableswitch 103 0 6 #[44, 52, 60, 71, 79, 87, 95], 44) := by decide +kernel
theorem dX4_count_52 : decode cX4_count 52 = .ok (.aload_n 0, 1) := by decide +kernel
theorem dX4_count_53 : decode cX4_count 53 = .ok (.getfield 10, 3) := by decide +kernel
theorem dX4_count_56 : decode cX4_count 56 = .ok (.getfield 102, 3) := by decide +kernel
theorem dX4_count_59 : decode cX4_count 59 = .ok (.ireturn, 1) := by decide +kernel
theorem dX4_count_60 : decode cX4_count 60 = .ok (.aload_n 0, 1) := by decide +kernel
theorem dX4_count_61 : decode cX4_count 61 = .ok (.getfield 10, 3) := by decide +kernel
theorem dX4_count_64 : decode cX4_count 64 = .ok (.invokevirtual 199, 3) := by decide +kernel
theorem dX4_count_67 : decode cX4_count 67 = .ok (.ireturn, 1) := by decide +kernel
theorem dX4_count_68 : decode cX4_count 68 = .ok (.aload_n 0, 1) := by decide +kernel
theorem dX4_count_69 : decode cX4_count 69 = .ok (.getfield 10, 3) := by decide +kernel
theorem dX4_count_72 : decode cX4_count 72 = .ok (.getfield 161, 3) := by decide +kernel
theorem dX4_count_75 : decode cX4_count 75 = .ok (.getfield 202, 3) := by decide +kernel
theorem dX4_count_78 : decode cX4_count 78 = .ok (.ireturn, 1) := by decide +kernel
theorem dX4_count_79 : decode cX4_count 79 = .ok (.aload_n 0, 1) := by decide +kernel
theorem dX4_count_80 : decode cX4_count 80 = .ok (.getfield 10, 3) := by decide +kernel
theorem dX4_count_83 : decode cX4_count 83 = .ok (.invokevirtual 205, 3) := by decide +kernel
theorem dX4_count_86 : decode cX4_count 86 = .ok (.ireturn, 1) := by decide +kernel
theorem dX4_count_87 : decode cX4_count 87 = .ok (.aload_n 0, 1) := by decide +kernel
theorem dX4_count_88 : decode cX4_count 88 = .ok (.getfield 10, 3) := by decide +kernel
theorem dX4_count_91 : decode cX4_count 91 = .ok (.getfield 208, 3) := by decide +kernel
theorem dX4_count_94 : decode cX4_count 94 = .ok (.ireturn, 1) := by decide +kernel
theorem dX4_count_95 : decode cX4_count 95 = .ok (.aload_n 0, 1) := by decide +kernel
theorem dX4_count_96 : decode cX4_count 96 = .ok (.getfield 10, 3) := by decide +kernel
theorem dX4_count_99 : decode cX4_count 99 = .ok (.getfield 112, 3) := by decide +kernel
theorem dX4_count_102 : decode cX4_count 102 = .ok (.ireturn, 1) := by decide +kernel
theorem dX4_count_103 : decode cX4_count 103 = .ok (.aload_n 0, 1) := by decide +kernel
theorem dX4_count_104 : decode cX4_count 104 = .ok (.getfield 10, 3) := by decide +kernel
theorem dX4_count_107 : decode cX4_count 107 = .ok (.getfield 211, 3) := by decide +kernel
theorem dX4_count_110 : decode cX4_count 110 = .ok (.ireturn, 1) := by decide +kernel
theorem dX4_count_111 : decode cX4_count 111 = .ok (.aload_n 0, 1) := by decide +kernel
theorem dX4_count_112 : decode cX4_count 112 = .ok (.getfield 20, 3) := by decide +kernel
theorem dX4_count_115 : decode cX4_count 115 = .ok (.ireturn, 1) := by decide +kernel
theorem dX4_setting_0 : decode cX4_setting 0 = .ok (.iload_n 1, 1) := by decide +kernel
theorem dX4_setting_1 : decode cX4_setting 1 = .ok (.iconst 4, 1) := by decide +kernel
theorem dX4_setting_2 : decode cX4_setting 2 = .ok (.invokestatic 79, 3) := by decide +kernel
theorem dX4_setting_5 : decode cX4_setting 5 = .ok (.aload_n 0, 1) := by decide +kernel
theorem dX4_setting_6 : decode cX4_setting 6 = .ok (.getfield 10, 3) := by decide +kernel
theorem dX4_setting_9 : decode cX4_setting 9 = .ok (.getfield 92, 3) := by decide +kernel
theorem dX4_setting_12 : decode cX4_setting 12 = .ok (.iload_n 1, 1) := by decide +kernel
theorem dX4_setting_13 : decode cX4_setting 13 = .ok (.iaload, 1) := by decide +kernel
theorem dX4_setting_14 : decode cX4_setting 14 = .ok (.ireturn, 1) := by decide +kernel
theorem dX4_text_0 : decode cX4_text 0 = .ok (.iload_n 1, 1) := by decide +kernel
theorem dX4_text_1 : decode cX4_text 1 = .ok (.iconst 0, 1) := by decide +kernel
theorem dX4_text_2 : decode cX4_text 2 = .ok (.iconst 5, 1) := by decide +kernel
theorem dX4_text_3 : decode cX4_text 3 = .ok (.invokestatic 60, 3) := by decide +kernel
theorem dX4_text_6 : decode cX4_text 6 = .ok (.aload_n 0, 1) := by decide +kernel
theorem dX4_text_7 : decode cX4_text 7 = .ok (.getfield 34, 3) := by decide +kernel
theorem dX4_text_10 : decode cX4_text 10 = .ok (.invokevirtual 132, 3) := by decide +kernel
theorem dX4_text_13 : decode cX4_text 13 = .ok (.ifCond .ne 5, 3) := by decide +kernel
theorem dX4_text_16 : decode cX4_text 16 = .ok (.iconst (-1), 1) := by decide +kernel
theorem dX4_text_17 : decode cX4_text 17 = .ok (.ireturn, 1) := by decide +kernel
theorem dX4_text_18 : decode cX4_text 18 = .ok (.aload_n 0, 1) := by decide +kernel
theorem dX4_text_19 : decode cX4_text 19 = .ok (.getfield 52, 3) := by decide +kernel
theorem dX4_text_22 : decode cX4_text 22 = .ok (.aload_n 0, 1) := by decide +kernel
theorem dX4_text_23 : decode cX4_text 23 = .ok (.getfield 10, 3) := by decide +kernel
theorem dX4_text_26 : decode cX4_text 26 = .ok (.aload_n 0, 1) := by decide +kernel
theorem dX4_text_27 : decode cX4_text 27 = .ok (.getfield 34, 3) := by decide +kernel
theorem dX4_text_30 : decode cX4_text 30 = .ok (.invokevirtual 214, 3) := by decide +kernel
theorem dX4_text_33 : decode cX4_text 33 = .ok (.iload_n 1, 1) := by decide +kernel
theorem dX4_text_34 : decode cX4_text 34 = .ok (.tableswitch 94 0 4 #[34, 50, 66, 74, 82], 34) := by decide +kernel
theorem dX4_text_68 : decode cX4_text 68 = .ok (.aload_n 0, 1) := by decide +kernel
theorem dX4_text_69 : decode cX4_text 69 = .ok (.getfield 52, 3) := by decide +kernel
theorem dX4_text_72 : decode cX4_text 72 = .ok (.aload_n 0, 1) := by decide +kernel
theorem dX4_text_73 : decode cX4_text 73 = .ok (.getfield 10, 3) := by decide +kernel
theorem dX4_text_76 : decode cX4_text 76 = .ok (.aload_n 0, 1) := by decide +kernel
theorem dX4_text_77 : decode cX4_text 77 = .ok (.getfield 34, 3) := by decide +kernel
theorem dX4_text_80 : decode cX4_text 80 = .ok (.invokevirtual 218, 3) := by decide +kernel
theorem dX4_text_83 : decode cX4_text 83 = .ok (.ireturn, 1) := by decide +kernel
theorem dX4_text_84 : decode cX4_text 84 = .ok (.aload_n 0, 1) := by decide +kernel
theorem dX4_text_85 : decode cX4_text 85 = .ok (.getfield 52, 3) := by decide +kernel
theorem dX4_text_88 : decode cX4_text 88 = .ok (.aload_n 0, 1) := by decide +kernel
theorem dX4_text_89 : decode cX4_text 89 = .ok (.getfield 10, 3) := by decide +kernel
theorem dX4_text_92 : decode cX4_text 92 = .ok (.aload_n 0, 1) := by decide +kernel
theorem dX4_text_93 : decode cX4_text 93 = .ok (.getfield 34, 3) := by decide +kernel
theorem dX4_text_96 : decode cX4_text 96 = .ok (.invokevirtual 222, 3) := by decide +kernel
theorem dX4_text_99 : decode cX4_text 99 = .ok (.ireturn, 1) := by decide +kernel
theorem dX4_text_100 : decode cX4_text 100 = .ok (.aload_n 0, 1) := by decide +kernel
theorem dX4_text_101 : decode cX4_text 101 = .ok (.getfield 52, 3) := by decide +kernel
theorem dX4_text_104 : decode cX4_text 104 = .ok (.getfield 225, 3) := by decide +kernel
theorem dX4_text_107 : decode cX4_text 107 = .ok (.ireturn, 1) := by decide +kernel
theorem dX4_text_108 : decode cX4_text 108 = .ok (.aload_n 0, 1) := by decide +kernel
theorem dX4_text_109 : decode cX4_text 109 = .ok (.getfield 52, 3) := by decide +kernel
theorem dX4_text_112 : decode cX4_text 112 = .ok (.invokevirtual 228, 3) := by decide +kernel
theorem dX4_text_115 : decode cX4_text 115 = .ok (.ireturn, 1) := by decide +kernel
theorem dX4_text_116 : decode cX4_text 116 = .ok (.aload_n 0, 1) := by decide +kernel
theorem dX4_text_117 : decode cX4_text 117 = .ok (.getfield 52, 3) := by decide +kernel
theorem dX4_text_120 : decode cX4_text 120 = .ok (.aload_n 0, 1) := by decide +kernel
theorem dX4_text_121 : decode cX4_text 121 = .ok (.getfield 10, 3) := by decide +kernel
theorem dX4_text_124 : decode cX4_text 124 = .ok (.invokevirtual 231, 3) := by decide +kernel
theorem dX4_text_127 : decode cX4_text 127 = .ok (.ireturn, 1) := by decide +kernel
theorem dX4_text_128 : decode cX4_text 128 = .ok (.aload_n 0, 1) := by decide +kernel
theorem dX4_text_129 : decode cX4_text 129 = .ok (.getfield 52, 3) := by decide +kernel
theorem dX4_text_132 : decode cX4_text 132 = .ok (.aload_n 0, 1) := by decide +kernel
theorem dX4_text_133 : decode cX4_text 133 = .ok (.getfield 10, 3) := by decide +kernel
theorem dX4_text_136 : decode cX4_text 136 = .ok (.invokevirtual 235, 3) := by decide +kernel
theorem dX4_text_139 : decode cX4_text 139 = .ok (.ireturn, 1) := by decide +kernel
theorem dX4_ifCircled_0 : decode cX4_ifCircled 0 = .ok (.iload_n 1, 1) := by decide +kernel
theorem dX4_ifCircled_1 : decode cX4_ifCircled 1 = .ok (.invokestatic 56, 3) := by decide +kernel
theorem dX4_ifCircled_4 : decode cX4_ifCircled 4 = .ok (.iload_n 2, 1) := by decide +kernel
theorem dX4_ifCircled_5 : decode cX4_ifCircled 5 = .ok (.invokestatic 56, 3) := by decide +kernel
theorem dX4_ifCircled_8 : decode cX4_ifCircled 8 = .ok (.iload_n 3, 1) := by decide +kernel
theorem dX4_ifCircled_9 : decode cX4_ifCircled 9 = .ok (.invokestatic 95, 3) := by decide +kernel
theorem dX4_ifCircled_12 : decode cX4_ifCircled 12 = .ok (.aload_n 0, 1) := by decide +kernel
theorem dX4_ifCircled_13 : decode cX4_ifCircled 13 = .ok (.getfield 10, 3) := by decide +kernel
theorem dX4_ifCircled_16 : decode cX4_ifCircled 16 = .ok (.getfield 102, 3) := by decide +kernel
theorem dX4_ifCircled_19 : decode cX4_ifCircled 19 = .ok (.bipush 40, 2) := by decide +kernel
theorem dX4_ifCircled_21 : decode cX4_ifCircled 21 = .ok (.if_icmp .lt 5, 3) := by decide +kernel
theorem dX4_ifCircled_24 : decode cX4_ifCircled 24 = .ok (.iconst (-1), 1) := by decide +kernel
theorem dX4_ifCircled_25 : decode cX4_ifCircled 25 = .ok (.ireturn, 1) := by decide +kernel
theorem dX4_ifCircled_26 : decode cX4_ifCircled 26 = .ok (.bipush 10, 2) := by decide +kernel
theorem dX4_ifCircled_28 : decode cX4_ifCircled 28 = .ok (.iload_n 1, 1) := by decide +kernel
theorem dX4_ifCircled_29 : decode cX4_ifCircled 29 = .ok (.imul, 1) := by decide +kernel
theorem dX4_ifCircled_30 : decode cX4_ifCircled 30 = .ok (.iload_n 2, 1) := by decide +kernel
theorem dX4_ifCircled_31 : decode cX4_ifCircled 31 = .ok (.iadd, 1) := by decide +kernel
theorem dX4_ifCircled_32 : decode cX4_ifCircled 32 = .ok (.istore 4, 2) := by decide +kernel
theorem dX4_ifCircled_34 : decode cX4_ifCircled 34 = .ok (.aload_n 0, 1) := by decide +kernel
theorem dX4_ifCircled_35 : decode cX4_ifCircled 35 = .ok (.getfield 41, 3) := by decide +kernel
theorem dX4_ifCircled_38 : decode cX4_ifCircled 38 = .ok (.aload_n 0, 1) := by decide +kernel
theorem dX4_ifCircled_39 : decode cX4_ifCircled 39 = .ok (.getfield 10, 3) := by decide +kernel
theorem dX4_ifCircled_42 : decode cX4_ifCircled 42 = .ok (.getfield 161, 3) := by decide +kernel
theorem dX4_ifCircled_45 : decode cX4_ifCircled 45 = .ok (.invokevirtual 238, 3) := by decide +kernel
theorem dX4_ifCircled_48 : decode cX4_ifCircled 48 = .ok (.aload_n 0, 1) := by decide +kernel
theorem dX4_ifCircled_49 : decode cX4_ifCircled 49 = .ok (.getfield 41, 3) := by decide +kernel
theorem dX4_ifCircled_52 : decode cX4_ifCircled 52 = .ok (.aload_n 0, 1) := by decide +kernel
theorem dX4_ifCircled_53 : decode cX4_ifCircled 53 = .ok (.getfield 10, 3) := by decide +kernel
theorem dX4_ifCircled_56 : decode cX4_ifCircled 56 = .ok (.iload 4, 2) := by decide +kernel
theorem dX4_ifCircled_58 : decode cX4_ifCircled 58 = .ok (.iload_n 3, 1) := by decide +kernel
theorem dX4_ifCircled_59 : decode cX4_ifCircled 59 = .ok (.invokevirtual 241, 3) := by decide +kernel
theorem dX4_ifCircled_62 : decode cX4_ifCircled 62 = .ok (.ifCond .ne 7, 3) := by decide +kernel
theorem dX4_ifCircled_65 : decode cX4_ifCircled 65 = .ok (.iconst 1, 1) := by decide +kernel
theorem dX4_ifCircled_66 : decode cX4_ifCircled 66 = .ok (.goto 4, 3) := by decide +kernel
theorem dX4_ifCircled_69 : decode cX4_ifCircled 69 = .ok (.iconst 0, 1) := by decide +kernel
theorem dX4_ifCircled_70 : decode cX4_ifCircled 70 = .ok (.istore 5, 2) := by decide +kernel
theorem dX4_ifCircled_72 : decode cX4_ifCircled 72 = .ok (.iload 5, 2) := by decide +kernel
theorem dX4_ifCircled_74 : decode cX4_ifCircled 74 = .ok (.ifCond .eq 7, 3) := by decide +kernel
theorem dX4_ifCircled_77 : decode cX4_ifCircled 77 = .ok (.iconst (-1), 1) := by decide +kernel
theorem dX4_ifCircled_78 : decode cX4_ifCircled 78 = .ok (.goto 19, 3) := by decide +kernel
theorem dX4_ifCircled_81 : decode cX4_ifCircled 81 = .ok (.aload_n 0, 1) := by decide +kernel
theorem dX4_ifCircled_82 : decode cX4_ifCircled 82 = .ok (.getfield 41, 3) := by decide +kernel
theorem dX4_ifCircled_85 : decode cX4_ifCircled 85 = .ok (.aload_n 0, 1) := by decide +kernel
theorem dX4_ifCircled_86 : decode cX4_ifCircled 86 = .ok (.getfield 10, 3) := by decide +kernel
theorem dX4_ifCircled_89 : decode cX4_ifCircled 89 = .ok (.iload 4, 2) := by decide +kernel
theorem dX4_ifCircled_91 : decode cX4_ifCircled 91 = .ok (.invokevirtual 164, 3) := by decide +kernel
theorem dX4_ifCircled_94 : decode cX4_ifCircled 94 = .ok (.bipush 100, 2) := by decide +kernel
theorem dX4_ifCircled_96 : decode cX4_ifCircled 96 = .ok (.iadd, 1) := by decide +kernel
theorem dX4_ifCircled_97 : decode cX4_ifCircled 97 = .ok (.ireturn, 1) := by decide +kernel
theorem dX4_ifForgotten_0 : decode cX4_ifForgotten 0 = .ok (.iload_n 1, 1) := by decide +kernel
theorem dX4_ifForgotten_1 : decode cX4_ifForgotten 1 = .ok (.aload_n 0, 1) := by decide +kernel
theorem dX4_ifForgotten_2 : decode cX4_ifForgotten 2 = .ok (.getfield 10, 3) := by decide +kernel
theorem dX4_ifForgotten_5 : decode cX4_ifForgotten 5 = .ok (.getfield 102, 3) := by decide +kernel
theorem dX4_ifForgotten_8 : decode cX4_ifForgotten 8 = .ok (.invokestatic 79, 3) := by decide +kernel
theorem dX4_ifForgotten_11 : decode cX4_ifForgotten 11 = .ok (.aload_n 0, 1) := by decide +kernel
theorem dX4_ifForgotten_12 : decode cX4_ifForgotten 12 = .ok (.iload_n 1, 1) := by decide +kernel
theorem dX4_ifForgotten_13 : decode cX4_ifForgotten 13 = .ok (.invokevirtual 105, 3) := by decide +kernel
theorem dX4_ifForgotten_16 : decode cX4_ifForgotten 16 = .ok (.ireturn, 1) := by decide +kernel
theorem dX4_mainLesson_0 : decode cX4_mainLesson 0 = .ok (.aload_n 0, 1) := by decide +kernel
theorem dX4_mainLesson_1 : decode cX4_mainLesson 1 = .ok (.invokevirtual 245, 3) := by decide +kernel
theorem dX4_mainLesson_4 : decode cX4_mainLesson 4 = .ok (.aload_n 0, 1) := by decide +kernel
theorem dX4_mainLesson_5 : decode cX4_mainLesson 5 = .ok (.invokevirtual 248, 3) := by decide +kernel
theorem dX4_mainLesson_8 : decode cX4_mainLesson 8 = .ok (.ireturn, 1) := by decide +kernel
theorem dX4_tightShare_0 : decode cX4_tightShare 0 = .ok (.iconst 0, 1) := by decide +kernel
theorem dX4_tightShare_1 : decode cX4_tightShare 1 = .ok (.istore_n 1, 1) := by decide +kernel
theorem dX4_tightShare_2 : decode cX4_tightShare 2 = .ok (.iconst 0, 1) := by decide +kernel
theorem dX4_tightShare_3 : decode cX4_tightShare 3 = .ok (.istore_n 2, 1) := by decide +kernel
theorem dX4_tightShare_4 : decode cX4_tightShare 4 = .ok (.iload_n 2, 1) := by decide +kernel
theorem dX4_tightShare_5 : decode cX4_tightShare 5 = .ok (.bipush 100, 2) := by decide +kernel
theorem dX4_tightShare_7 : decode cX4_tightShare 7 = .ok (.if_icmp .ge 30, 3) := by decide +kernel
theorem dX4_tightShare_10 : decode cX4_tightShare 10 = .ok (.aload_n 0, 1) := by decide +kernel
theorem dX4_tightShare_11 : decode cX4_tightShare 11 = .ok (.getfield 10, 3) := by decide +kernel
theorem dX4_tightShare_14 : decode cX4_tightShare 14 = .ok (.getfield 161, 3) := by decide +kernel
theorem dX4_tightShare_17 : decode cX4_tightShare 17 = .ok (.aload_n 0, 1) := by decide +kernel
theorem dX4_tightShare_18 : decode cX4_tightShare 18 = .ok (.getfield 10, 3) := by decide +kernel
theorem dX4_tightShare_21 : decode cX4_tightShare 21 = .ok (.iload_n 2, 1) := by decide +kernel
theorem dX4_tightShare_22 : decode cX4_tightShare 22 = .ok (.invokevirtual 164, 3) := by decide +kernel
theorem dX4_tightShare_25 : decode cX4_tightShare 25 = .ok (.ifCond .ge 6, 3) := by decide +kernel
theorem dX4_tightShare_28 : decode cX4_tightShare 28 = .ok (.iinc 1 1, 3) := by decide +kernel
theorem dX4_tightShare_31 : decode cX4_tightShare 31 = .ok (.iinc 2 1, 3) := by decide +kernel
theorem dX4_tightShare_34 : decode cX4_tightShare 34 = .ok (.goto (-30), 3) := by decide +kernel
theorem dX4_tightShare_37 : decode cX4_tightShare 37 = .ok (.iload_n 1, 1) := by decide +kernel
theorem dX4_tightShare_38 : decode cX4_tightShare 38 = .ok (.i2d, 1) := by decide +kernel
theorem dX4_tightShare_39 : decode cX4_tightShare 39 = .ok (.ldc2_w 251, 3) := by decide +kernel
theorem dX4_tightShare_42 : decode cX4_tightShare 42 = .ok (.ddiv, 1) := by decide +kernel
theorem dX4_tightShare_43 : decode cX4_tightShare 43 = .ok (.dreturn, 1) := by decide +kernel
theorem dX4_checkLetter_0 : decode cX4_checkLetter 0 = .ok (.iload_n 0, 1) := by decide +kernel
theorem dX4_checkLetter_1 : decode cX4_checkLetter 1 = .ok (.bipush 10, 2) := by decide +kernel
theorem dX4_checkLetter_3 : decode cX4_checkLetter 3 = .ok (.invokestatic 79, 3) := by decide +kernel
theorem dX4_checkLetter_6 : decode cX4_checkLetter 6 = .ok (.return_, 1) := by decide +kernel
theorem dX4_checkIndex_0 : decode cX4_checkIndex 0 = .ok (.iload_n 0, 1) := by decide +kernel
theorem dX4_checkIndex_1 : decode cX4_checkIndex 1 = .ok (.ifCond .lt 8, 3) := by decide +kernel
theorem dX4_checkIndex_4 : decode cX4_checkIndex 4 = .ok (.iload_n 0, 1) := by decide +kernel
theorem dX4_checkIndex_5 : decode cX4_checkIndex 5 = .ok (.iload_n 1, 1) := by decide +kernel
theorem dX4_checkIndex_6 : decode cX4_checkIndex 6 = .ok (.if_icmp .lt 14, 3) := by decide +kernel
theorem dX4_checkIndex_9 : decode cX4_checkIndex 9 = .ok (.new 142, 3) := by decide +kernel
theorem dX4_checkIndex_12 : decode cX4_checkIndex 12 = .ok (.dup, 1) := by decide +kernel
theorem dX4_checkIndex_13 : decode cX4_checkIndex 13 = .ok (.ldc_w 286, 3) := by decide +kernel
theorem dX4_checkIndex_16 : decode cX4_checkIndex 16 = .ok (.invokespecial 146, 3) := by decide +kernel
theorem dX4_checkIndex_19 : decode cX4_checkIndex 19 = .ok (.athrow, 1) := by decide +kernel
theorem dX4_checkIndex_20 : decode cX4_checkIndex 20 = .ok (.return_, 1) := by decide +kernel
theorem dX4_checkRange_0 : decode cX4_checkRange 0 = .ok (.iload_n 0, 1) := by decide +kernel
theorem dX4_checkRange_1 : decode cX4_checkRange 1 = .ok (.iload_n 1, 1) := by decide +kernel
theorem dX4_checkRange_2 : decode cX4_checkRange 2 = .ok (.if_icmp .lt 8, 3) := by decide +kernel
theorem dX4_checkRange_5 : decode cX4_checkRange 5 = .ok (.iload_n 0, 1) := by decide +kernel
theorem dX4_checkRange_6 : decode cX4_checkRange 6 = .ok (.iload_n 2, 1) := by decide +kernel
theorem dX4_checkRange_7 : decode cX4_checkRange 7 = .ok (.if_icmp .le 14, 3) := by decide +kernel
theorem dX4_checkRange_10 : decode cX4_checkRange 10 = .ok (.new 288, 3) := by decide +kernel
theorem dX4_checkRange_13 : decode cX4_checkRange 13 = .ok (.dup, 1) := by decide +kernel
theorem dX4_checkRange_14 : decode cX4_checkRange 14 = .ok (.ldc_w 290, 3) := by decide +kernel
theorem dX4_checkRange_17 : decode cX4_checkRange 17 = .ok (.invokespecial 292, 3) := by decide +kernel
theorem dX4_checkRange_20 : decode cX4_checkRange 20 = .ok (.athrow, 1) := by decide +kernel
theorem dX4_checkRange_21 : decode cX4_checkRange 21 = .ok (.return_, 1) := by decide +kernel
theorem dX4_checkTold_0 : decode cX4_checkTold 0 = .ok (.iload_n 0, 1) := by decide +kernel
theorem dX4_checkTold_1 : decode cX4_checkTold 1 = .ok (.iconst 1, 1) := by decide +kernel
theorem dX4_checkTold_2 : decode cX4_checkTold 2 = .ok (.if_icmp .eq 19, 3) := by decide +kernel
theorem dX4_checkTold_5 : decode cX4_checkTold 5 = .ok (.iload_n 0, 1) := by decide +kernel
theorem dX4_checkTold_6 : decode cX4_checkTold 6 = .ok (.iconst (-1), 1) := by decide +kernel
theorem dX4_checkTold_7 : decode cX4_checkTold 7 = .ok (.if_icmp .eq 14, 3) := by decide +kernel
theorem dX4_checkTold_10 : decode cX4_checkTold 10 = .ok (.new 288, 3) := by decide +kernel
theorem dX4_checkTold_13 : decode cX4_checkTold 13 = .ok (.dup, 1) := by decide +kernel
theorem dX4_checkTold_14 : decode cX4_checkTold 14 = .ok (.ldc_w 293, 3) := by decide +kernel
theorem dX4_checkTold_17 : decode cX4_checkTold 17 = .ok (.invokespecial 292, 3) := by decide +kernel
theorem dX4_checkTold_20 : decode cX4_checkTold 20 = .ok (.athrow, 1) := by decide +kernel
theorem dX4_checkTold_21 : decode cX4_checkTold 21 = .ok (.return_, 1) := by decide +kernel
theorem dX4_saveState_0 : decode cX4_saveState 0 = .ok (.aload_n 0, 1) := by decide +kernel
theorem dX4_saveState_1 : decode cX4_saveState 1 = .ok (.getfield 20, 3) := by decide +kernel
theorem dX4_saveState_4 : decode cX4_saveState 4 = .ok (.bipush 6, 2) := by decide +kernel
theorem dX4_saveState_6 : decode cX4_saveState 6 = .ok (.if_icmp .lt 50, 3) := by decide +kernel
theorem dX4_saveState_9 : decode cX4_saveState 9 = .ok (.aload_n 0, 1) := by decide +kernel
theorem dX4_saveState_10 : decode cX4_saveState 10 = .ok (.getfield 16, 3) := by decide +kernel
theorem dX4_saveState_13 : decode cX4_saveState 13 = .ok (.iconst 0, 1) := by decide +kernel
theorem dX4_saveState_14 : decode cX4_saveState 14 = .ok (.aaload, 1) := by decide +kernel
theorem dX4_saveState_15 : decode cX4_saveState 15 = .ok (.astore_n 1, 1) := by decide +kernel
theorem dX4_saveState_16 : decode cX4_saveState 16 = .ok (.iconst 1, 1) := by decide +kernel
theorem dX4_saveState_17 : decode cX4_saveState 17 = .ok (.istore_n 2, 1) := by decide +kernel
theorem dX4_saveState_18 : decode cX4_saveState 18 = .ok (.iload_n 2, 1) := by decide +kernel
theorem dX4_saveState_19 : decode cX4_saveState 19 = .ok (.bipush 6, 2) := by decide +kernel
theorem dX4_saveState_21 : decode cX4_saveState 21 = .ok (.if_icmp .ge 23, 3) := by decide +kernel
theorem dX4_saveState_24 : decode cX4_saveState 24 = .ok (.aload_n 0, 1) := by decide +kernel
theorem dX4_saveState_25 : decode cX4_saveState 25 = .ok (.getfield 16, 3) := by decide +kernel
theorem dX4_saveState_28 : decode cX4_saveState 28 = .ok (.iload_n 2, 1) := by decide +kernel
theorem dX4_saveState_29 : decode cX4_saveState 29 = .ok (.iconst 1, 1) := by decide +kernel
theorem dX4_saveState_30 : decode cX4_saveState 30 = .ok (.isub, 1) := by decide +kernel
theorem dX4_saveState_31 : decode cX4_saveState 31 = .ok (.aload_n 0, 1) := by decide +kernel
theorem dX4_saveState_32 : decode cX4_saveState 32 = .ok (.getfield 16, 3) := by decide +kernel
theorem dX4_saveState_35 : decode cX4_saveState 35 = .ok (.iload_n 2, 1) := by decide +kernel
theorem dX4_saveState_36 : decode cX4_saveState 36 = .ok (.aaload, 1) := by decide +kernel
theorem dX4_saveState_37 : decode cX4_saveState 37 = .ok (.aastore, 1) := by decide +kernel
theorem dX4_saveState_38 : decode cX4_saveState 38 = .ok (.iinc 2 1, 3) := by decide +kernel
theorem dX4_saveState_41 : decode cX4_saveState 41 = .ok (.goto (-23), 3) := by decide +kernel
theorem dX4_saveState_44 : decode cX4_saveState 44 = .ok (.aload_n 0, 1) := by decide +kernel
theorem dX4_saveState_45 : decode cX4_saveState 45 = .ok (.getfield 16, 3) := by decide +kernel
theorem dX4_saveState_48 : decode cX4_saveState 48 = .ok (.iconst 5, 1) := by decide +kernel
theorem dX4_saveState_49 : decode cX4_saveState 49 = .ok (.aload_n 1, 1) := by decide +kernel
theorem dX4_saveState_50 : decode cX4_saveState 50 = .ok (.aastore, 1) := by decide +kernel
theorem dX4_saveState_51 : decode cX4_saveState 51 = .ok (.aload_n 0, 1) := by decide +kernel
theorem dX4_saveState_52 : decode cX4_saveState 52 = .ok (.iconst 5, 1) := by decide +kernel
theorem dX4_saveState_53 : decode cX4_saveState 53 = .ok (.putfield 20, 3) := by decide +kernel
theorem dX4_saveState_56 : decode cX4_saveState 56 = .ok (.aload_n 0, 1) := by decide +kernel
theorem dX4_saveState_57 : decode cX4_saveState 57 = .ok (.getfield 16, 3) := by decide +kernel
theorem dX4_saveState_60 : decode cX4_saveState 60 = .ok (.aload_n 0, 1) := by decide +kernel
theorem dX4_saveState_61 : decode cX4_saveState 61 = .ok (.getfield 20, 3) := by decide +kernel
theorem dX4_saveState_64 : decode cX4_saveState 64 = .ok (.aaload, 1) := by decide +kernel
theorem dX4_saveState_65 : decode cX4_saveState 65 = .ok (.aload_n 0, 1) := by decide +kernel
theorem dX4_saveState_66 : decode cX4_saveState 66 = .ok (.getfield 10, 3) := by decide +kernel
theorem dX4_saveState_69 : decode cX4_saveState 69 = .ok (.invokevirtual 150, 3) := by decide +kernel
theorem dX4_saveState_72 : decode cX4_saveState 72 = .ok (.aload_n 0, 1) := by decide +kernel
theorem dX4_saveState_73 : decode cX4_saveState 73 = .ok (.dup, 1) := by decide +kernel
theorem dX4_saveState_74 : decode cX4_saveState 74 = .ok (.getfield 20, 3) := by decide +kernel
theorem dX4_saveState_77 : decode cX4_saveState 77 = .ok (.iconst 1, 1) := by decide +kernel
theorem dX4_saveState_78 : decode cX4_saveState 78 = .ok (.iadd, 1) := by decide +kernel
theorem dX4_saveState_79 : decode cX4_saveState 79 = .ok (.putfield 20, 3) := by decide +kernel
theorem dX4_saveState_82 : decode cX4_saveState 82 = .ok (.return_, 1) := by decide +kernel
theorem dX4_learnCircle_0 : decode cX4_learnCircle 0 = .ok (.aload_n 0, 1) := by decide +kernel
theorem dX4_learnCircle_1 : decode cX4_learnCircle 1 = .ok (.invokevirtual 64, 3) := by decide +kernel
theorem dX4_learnCircle_4 : decode cX4_learnCircle 4 = .ok (.aload_n 0, 1) := by decide +kernel
theorem dX4_learnCircle_5 : decode cX4_learnCircle 5 = .ok (.getfield 10, 3) := by decide +kernel
theorem dX4_learnCircle_8 : decode cX4_learnCircle 8 = .ok (.getfield 102, 3) := by decide +kernel
theorem dX4_learnCircle_11 : decode cX4_learnCircle 11 = .ok (.bipush 40, 2) := by decide +kernel
theorem dX4_learnCircle_13 : decode cX4_learnCircle 13 = .ok (.if_icmp .ge 22, 3) := by decide +kernel
theorem dX4_learnCircle_16 : decode cX4_learnCircle 16 = .ok (.aload_n 0, 1) := by decide +kernel
theorem dX4_learnCircle_17 : decode cX4_learnCircle 17 = .ok (.getfield 10, 3) := by decide +kernel
theorem dX4_learnCircle_20 : decode cX4_learnCircle 20 = .ok (.getfield 161, 3) := by decide +kernel
theorem dX4_learnCircle_23 : decode cX4_learnCircle 23 = .ok (.aload_n 0, 1) := by decide +kernel
theorem dX4_learnCircle_24 : decode cX4_learnCircle 24 = .ok (.getfield 10, 3) := by decide +kernel
theorem dX4_learnCircle_27 : decode cX4_learnCircle 27 = .ok (.iload_n 1, 1) := by decide +kernel
theorem dX4_learnCircle_28 : decode cX4_learnCircle 28 = .ok (.iload_n 2, 1) := by decide +kernel
theorem dX4_learnCircle_29 : decode cX4_learnCircle 29 = .ok (.invokevirtual 241, 3) := by decide +kernel
theorem dX4_learnCircle_32 : decode cX4_learnCircle 32 = .ok (.ifCond .ne 18, 3) := by decide +kernel
theorem dX4_learnCircle_35 : decode cX4_learnCircle 35 = .ok (.aload_n 0, 1) := by decide +kernel
theorem dX4_learnCircle_36 : decode cX4_learnCircle 36 = .ok (.getfield 10, 3) := by decide +kernel
theorem dX4_learnCircle_39 : decode cX4_learnCircle 39 = .ok (.dup, 1) := by decide +kernel
theorem dX4_learnCircle_40 : decode cX4_learnCircle 40 = .ok (.getfield 208, 3) := by decide +kernel
theorem dX4_learnCircle_43 : decode cX4_learnCircle 43 = .ok (.iconst 1, 1) := by decide +kernel
theorem dX4_learnCircle_44 : decode cX4_learnCircle 44 = .ok (.iadd, 1) := by decide +kernel
theorem dX4_learnCircle_45 : decode cX4_learnCircle 45 = .ok (.putfield 208, 3) := by decide +kernel
theorem dX4_learnCircle_48 : decode cX4_learnCircle 48 = .ok (.iconst (-1), 1) := by decide +kernel
theorem dX4_learnCircle_49 : decode cX4_learnCircle 49 = .ok (.ireturn, 1) := by decide +kernel
theorem dX4_learnCircle_50 : decode cX4_learnCircle 50 = .ok (.aload_n 0, 1) := by decide +kernel
theorem dX4_learnCircle_51 : decode cX4_learnCircle 51 = .ok (.getfield 10, 3) := by decide +kernel
theorem dX4_learnCircle_54 : decode cX4_learnCircle 54 = .ok (.iload_n 1, 1) := by decide +kernel
theorem dX4_learnCircle_55 : decode cX4_learnCircle 55 = .ok (.iload_n 2, 1) := by decide +kernel
theorem dX4_learnCircle_56 : decode cX4_learnCircle 56 = .ok (.invokevirtual 295, 3) := by decide +kernel
theorem dX4_learnCircle_59 : decode cX4_learnCircle 59 = .ok (.aload_n 0, 1) := by decide +kernel
theorem dX4_learnCircle_60 : decode cX4_learnCircle 60 = .ok (.getfield 10, 3) := by decide +kernel
theorem dX4_learnCircle_63 : decode cX4_learnCircle 63 = .ok (.getfield 161, 3) := by decide +kernel
theorem dX4_learnCircle_66 : decode cX4_learnCircle 66 = .ok (.aload_n 0, 1) := by decide +kernel
theorem dX4_learnCircle_67 : decode cX4_learnCircle 67 = .ok (.getfield 10, 3) := by decide +kernel
theorem dX4_learnCircle_70 : decode cX4_learnCircle 70 = .ok (.iload_n 1, 1) := by decide +kernel
theorem dX4_learnCircle_71 : decode cX4_learnCircle 71 = .ok (.invokevirtual 164, 3) := by decide +kernel
theorem dX4_learnCircle_74 : decode cX4_learnCircle 74 = .ok (.bipush 100, 2) := by decide +kernel
theorem dX4_learnCircle_76 : decode cX4_learnCircle 76 = .ok (.iadd, 1) := by decide +kernel
theorem dX4_learnCircle_77 : decode cX4_learnCircle 77 = .ok (.ireturn, 1) := by decide +kernel
theorem dX4_pairsOtherwiseWithout_0 : decode cX4_pairsOtherwiseWithout 0 = .ok (.aload_n 0, 1) := by decide +kernel
theorem dX4_pairsOtherwiseWithout_1 : decode cX4_pairsOtherwiseWithout 1 = .ok (.getfield 41, 3) := by decide +kernel
theorem dX4_pairsOtherwiseWithout_4 : decode cX4_pairsOtherwiseWithout 4 = .ok (.aload_n 0, 1) := by decide +kernel
theorem dX4_pairsOtherwiseWithout_5 : decode cX4_pairsOtherwiseWithout 5 = .ok (.getfield 10, 3) := by decide +kernel
theorem dX4_pairsOtherwiseWithout_8 : decode cX4_pairsOtherwiseWithout 8 = .ok (.iload_n 1, 1) := by decide +kernel
theorem dX4_pairsOtherwiseWithout_9 : decode cX4_pairsOtherwiseWithout 9 = .ok (.invokevirtual 168, 3) := by decide +kernel
theorem dX4_pairsOtherwiseWithout_12 : decode cX4_pairsOtherwiseWithout 12 = .ok (.iconst 0, 1) := by decide +kernel
theorem dX4_pairsOtherwiseWithout_13 : decode cX4_pairsOtherwiseWithout 13 = .ok (.istore_n 2, 1) := by decide +kernel
theorem dX4_pairsOtherwiseWithout_14 : decode cX4_pairsOtherwiseWithout 14 = .ok (.iconst 0, 1) := by decide +kernel
theorem dX4_pairsOtherwiseWithout_15 : decode cX4_pairsOtherwiseWithout 15 = .ok (.istore_n 3, 1) := by decide +kernel
theorem dX4_pairsOtherwiseWithout_16 : decode cX4_pairsOtherwiseWithout 16 = .ok (.iload_n 3, 1) := by decide +kernel
theorem dX4_pairsOtherwiseWithout_17 : decode cX4_pairsOtherwiseWithout 17 = .ok (.bipush 100, 2) := by decide +kernel
theorem dX4_pairsOtherwiseWithout_19 : decode cX4_pairsOtherwiseWithout 19 = .ok (.if_icmp .ge 42, 3) := by decide +kernel
theorem dX4_pairsOtherwiseWithout_22 : decode cX4_pairsOtherwiseWithout 22 = .ok (.aload_n 0, 1) := by decide +kernel
theorem dX4_pairsOtherwiseWithout_23 : decode cX4_pairsOtherwiseWithout 23 = .ok (.getfield 41, 3) := by decide +kernel
theorem dX4_pairsOtherwiseWithout_26 : decode cX4_pairsOtherwiseWithout 26 = .ok (.aload_n 0, 1) := by decide +kernel
theorem dX4_pairsOtherwiseWithout_27 : decode cX4_pairsOtherwiseWithout 27 = .ok (.getfield 10, 3) := by decide +kernel
theorem dX4_pairsOtherwiseWithout_30 : decode cX4_pairsOtherwiseWithout 30 = .ok (.iload_n 3, 1) := by decide +kernel
theorem dX4_pairsOtherwiseWithout_31 : decode cX4_pairsOtherwiseWithout 31 = .ok (.invokevirtual 164, 3) := by decide +kernel
theorem dX4_pairsOtherwiseWithout_34 : decode cX4_pairsOtherwiseWithout 34 = .ok (.aload_n 0, 1) := by decide +kernel
theorem dX4_pairsOtherwiseWithout_35 : decode cX4_pairsOtherwiseWithout 35 = .ok (.getfield 10, 3) := by decide +kernel
theorem dX4_pairsOtherwiseWithout_38 : decode cX4_pairsOtherwiseWithout 38 = .ok (.getfield 161, 3) := by decide +kernel
theorem dX4_pairsOtherwiseWithout_41 : decode cX4_pairsOtherwiseWithout 41 = .ok (.aload_n 0, 1) := by decide +kernel
theorem dX4_pairsOtherwiseWithout_42 : decode cX4_pairsOtherwiseWithout 42 = .ok (.getfield 10, 3) := by decide +kernel
theorem dX4_pairsOtherwiseWithout_45 : decode cX4_pairsOtherwiseWithout 45 = .ok (.iload_n 3, 1) := by decide +kernel
theorem dX4_pairsOtherwiseWithout_46 : decode cX4_pairsOtherwiseWithout 46 = .ok (.invokevirtual 164, 3) := by decide +kernel
theorem dX4_pairsOtherwiseWithout_49 : decode cX4_pairsOtherwiseWithout 49 = .ok (.if_icmp .eq 6, 3) := by decide +kernel
theorem dX4_pairsOtherwiseWithout_52 : decode cX4_pairsOtherwiseWithout 52 = .ok (.iinc 2 1, 3) := by decide +kernel
theorem dX4_pairsOtherwiseWithout_55 : decode cX4_pairsOtherwiseWithout 55 = .ok (.iinc 3 1, 3) := by decide +kernel
theorem dX4_pairsOtherwiseWithout_58 : decode cX4_pairsOtherwiseWithout 58 = .ok (.goto (-42), 3) := by decide +kernel
theorem dX4_pairsOtherwiseWithout_61 : decode cX4_pairsOtherwiseWithout 61 = .ok (.iload_n 2, 1) := by decide +kernel
theorem dX4_pairsOtherwiseWithout_62 : decode cX4_pairsOtherwiseWithout 62 = .ok (.ireturn, 1) := by decide +kernel
theorem dX4_findPairsOtherwise_0 : decode cX4_findPairsOtherwise 0 = .ok (.iconst 0, 1) := by decide +kernel
theorem dX4_findPairsOtherwise_1 : decode cX4_findPairsOtherwise 1 = .ok (.istore_n 1, 1) := by decide +kernel
theorem dX4_findPairsOtherwise_2 : decode cX4_findPairsOtherwise 2 = .ok (.iload_n 1, 1) := by decide +kernel
theorem dX4_findPairsOtherwise_3 : decode cX4_findPairsOtherwise 3 = .ok (.aload_n 0, 1) := by decide +kernel
theorem dX4_findPairsOtherwise_4 : decode cX4_findPairsOtherwise 4 = .ok (.getfield 10, 3) := by decide +kernel
theorem dX4_findPairsOtherwise_7 : decode cX4_findPairsOtherwise 7 = .ok (.getfield 102, 3) := by decide +kernel
theorem dX4_findPairsOtherwise_10 : decode cX4_findPairsOtherwise 10 = .ok (.if_icmp .ge 20, 3) := by decide +kernel
theorem dX4_findPairsOtherwise_13 : decode cX4_findPairsOtherwise 13 = .ok (.aload_n 0, 1) := by decide +kernel
theorem dX4_findPairsOtherwise_14 : decode cX4_findPairsOtherwise 14 = .ok (.getfield 45, 3) := by decide +kernel
theorem dX4_findPairsOtherwise_17 : decode cX4_findPairsOtherwise 17 = .ok (.iload_n 1, 1) := by decide +kernel
theorem dX4_findPairsOtherwise_18 : decode cX4_findPairsOtherwise 18 = .ok (.aload_n 0, 1) := by decide +kernel
theorem dX4_findPairsOtherwise_19 : decode cX4_findPairsOtherwise 19 = .ok (.iload_n 1, 1) := by decide +kernel
theorem dX4_findPairsOtherwise_20 : decode cX4_findPairsOtherwise 20 = .ok (.invokevirtual 105, 3) := by decide +kernel
theorem dX4_findPairsOtherwise_23 : decode cX4_findPairsOtherwise 23 = .ok (.iastore, 1) := by decide +kernel
theorem dX4_findPairsOtherwise_24 : decode cX4_findPairsOtherwise 24 = .ok (.iinc 1 1, 3) := by decide +kernel
theorem dX4_findPairsOtherwise_27 : decode cX4_findPairsOtherwise 27 = .ok (.goto (-25), 3) := by decide +kernel
theorem dX4_findPairsOtherwise_30 : decode cX4_findPairsOtherwise 30 = .ok (.return_, 1) := by decide +kernel
theorem dX4_lessonWithMostOtherwise_0 : decode cX4_lessonWithMostOtherwise 0 = .ok (.iconst (-1), 1) := by decide +kernel
theorem dX4_lessonWithMostOtherwise_1 : decode cX4_lessonWithMostOtherwise 1 = .ok (.istore_n 1, 1) := by decide +kernel
theorem dX4_lessonWithMostOtherwise_2 : decode cX4_lessonWithMostOtherwise 2 = .ok (.iconst (-1), 1) := by decide +kernel
theorem dX4_lessonWithMostOtherwise_3 : decode cX4_lessonWithMostOtherwise 3 = .ok (.istore_n 2, 1) := by decide +kernel
theorem dX4_lessonWithMostOtherwise_4 : decode cX4_lessonWithMostOtherwise 4 = .ok (.iconst 0, 1) := by decide +kernel
theorem dX4_lessonWithMostOtherwise_5 : decode cX4_lessonWithMostOtherwise 5 = .ok (.istore_n 3, 1) := by decide +kernel
theorem dX4_lessonWithMostOtherwise_6 : decode cX4_lessonWithMostOtherwise 6 = .ok (.iload_n 3, 1) := by decide +kernel
theorem dX4_lessonWithMostOtherwise_7 : decode cX4_lessonWithMostOtherwise 7 = .ok (.aload_n 0, 1) := by decide +kernel
theorem dX4_lessonWithMostOtherwise_8 : decode cX4_lessonWithMostOtherwise 8 = .ok (.getfield 10, 3) := by decide +kernel
theorem dX4_lessonWithMostOtherwise_11 : decode cX4_lessonWithMostOtherwise 11 = .ok (.getfield 102, 3) := by decide +kernel
theorem dX4_lessonWithMostOtherwise_14 : decode cX4_lessonWithMostOtherwise 14 = .ok (.if_icmp .ge 28, 3) := by decide +kernel
theorem dX4_lessonWithMostOtherwise_17 : decode cX4_lessonWithMostOtherwise 17 = .ok (.aload_n 0, 1) := by decide +kernel
theorem dX4_lessonWithMostOtherwise_18 : decode cX4_lessonWithMostOtherwise 18 = .ok (.getfield 45, 3) := by decide +kernel
theorem dX4_lessonWithMostOtherwise_21 : decode cX4_lessonWithMostOtherwise 21 = .ok (.iload_n 3, 1) := by decide +kernel
theorem dX4_lessonWithMostOtherwise_22 : decode cX4_lessonWithMostOtherwise 22 = .ok (.iaload, 1) := by decide +kernel
theorem dX4_lessonWithMostOtherwise_23 : decode cX4_lessonWithMostOtherwise 23 = .ok (.iload_n 2, 1) := by decide +kernel
theorem dX4_lessonWithMostOtherwise_24 : decode cX4_lessonWithMostOtherwise 24 = .ok (.if_icmp .le 12, 3) := by decide +kernel
theorem dX4_lessonWithMostOtherwise_27 : decode cX4_lessonWithMostOtherwise 27 = .ok (.aload_n 0, 1) := by decide +kernel
theorem dX4_lessonWithMostOtherwise_28 : decode cX4_lessonWithMostOtherwise 28 = .ok (.getfield 45, 3) := by decide +kernel
theorem dX4_lessonWithMostOtherwise_31 : decode cX4_lessonWithMostOtherwise 31 = .ok (.iload_n 3, 1) := by decide +kernel
theorem dX4_lessonWithMostOtherwise_32 : decode cX4_lessonWithMostOtherwise 32 = .ok (.iaload, 1) := by decide +kernel
theorem dX4_lessonWithMostOtherwise_33 : decode cX4_lessonWithMostOtherwise 33 = .ok (.istore_n 2, 1) := by decide +kernel
theorem dX4_lessonWithMostOtherwise_34 : decode cX4_lessonWithMostOtherwise 34 = .ok (.iload_n 3, 1) := by decide +kernel
theorem dX4_lessonWithMostOtherwise_35 : decode cX4_lessonWithMostOtherwise 35 = .ok (.istore_n 1, 1) := by decide +kernel
theorem dX4_lessonWithMostOtherwise_36 : decode cX4_lessonWithMostOtherwise 36 = .ok (.iinc 3 1, 3) := by decide +kernel
theorem dX4_lessonWithMostOtherwise_39 : decode cX4_lessonWithMostOtherwise 39 = .ok (.goto (-33), 3) := by decide +kernel
theorem dX4_lessonWithMostOtherwise_42 : decode cX4_lessonWithMostOtherwise 42 = .ok (.iload_n 1, 1) := by decide +kernel
theorem dX4_lessonWithMostOtherwise_43 : decode cX4_lessonWithMostOtherwise 43 = .ok (.ireturn, 1) := by decide +kernel
theorem dJ9_max_7cf53_0 : decode cJ9_max_7cf53 0 = .ok (.iload_n 0, 1) := by decide +kernel
theorem dJ9_max_7cf53_1 : decode cJ9_max_7cf53 1 = .ok (.iload_n 1, 1) := by decide +kernel
theorem dJ9_max_7cf53_2 : decode cJ9_max_7cf53 2 = .ok (.if_icmp .lt 7, 3) := by decide +kernel
theorem dJ9_max_7cf53_5 : decode cJ9_max_7cf53 5 = .ok (.iload_n 0, 1) := by decide +kernel
theorem dJ9_max_7cf53_6 : decode cJ9_max_7cf53 6 = .ok (.goto 4, 3) := by decide +kernel
theorem dJ9_max_7cf53_9 : decode cJ9_max_7cf53 9 = .ok (.iload_n 1, 1) := by decide +kernel
theorem dJ9_max_7cf53_10 : decode cJ9_max_7cf53 10 = .ok (.ireturn, 1) := by decide +kernel
theorem dJ9_min_7cf53_0 : decode cJ9_min_7cf53 0 = .ok (.iload_n 0, 1) := by decide +kernel
theorem dJ9_min_7cf53_1 : decode cJ9_min_7cf53 1 = .ok (.iload_n 1, 1) := by decide +kernel
theorem dJ9_min_7cf53_2 : decode cJ9_min_7cf53 2 = .ok (.if_icmp .gt 7, 3) := by decide +kernel
theorem dJ9_min_7cf53_5 : decode cJ9_min_7cf53 5 = .ok (.iload_n 0, 1) := by decide +kernel
theorem dJ9_min_7cf53_6 : decode cJ9_min_7cf53 6 = .ok (.goto 4, 3) := by decide +kernel
theorem dJ9_min_7cf53_9 : decode cJ9_min_7cf53 9 = .ok (.iload_n 1, 1) := by decide +kernel
theorem dJ9_min_7cf53_10 : decode cJ9_min_7cf53 10 = .ok (.ireturn, 1) := by decide +kernel
theorem dJ7_fill_53178_0 : decode cJ7_fill_53178 0 = .ok (.iconst 0, 1) := by decide +kernel
theorem dJ7_fill_53178_1 : decode cJ7_fill_53178 1 = .ok (.istore_n 2, 1) := by decide +kernel
theorem dJ7_fill_53178_2 : decode cJ7_fill_53178 2 = .ok (.aload_n 0, 1) := by decide +kernel
theorem dJ7_fill_53178_3 : decode cJ7_fill_53178 3 = .ok (.arraylength, 1) := by decide +kernel
theorem dJ7_fill_53178_4 : decode cJ7_fill_53178 4 = .ok (.istore_n 3, 1) := by decide +kernel
theorem dJ7_fill_53178_5 : decode cJ7_fill_53178 5 = .ok (.iload_n 2, 1) := by decide +kernel
theorem dJ7_fill_53178_6 : decode cJ7_fill_53178 6 = .ok (.iload_n 3, 1) := by decide +kernel
theorem dJ7_fill_53178_7 : decode cJ7_fill_53178 7 = .ok (.if_icmp .ge 13, 3) := by decide +kernel
theorem dJ7_fill_53178_10 : decode cJ7_fill_53178 10 = .ok (.aload_n 0, 1) := by decide +kernel
theorem dJ7_fill_53178_11 : decode cJ7_fill_53178 11 = .ok (.iload_n 2, 1) := by decide +kernel
theorem dJ7_fill_53178_12 : decode cJ7_fill_53178 12 = .ok (.iload_n 1, 1) := by decide +kernel
theorem dJ7_fill_53178_13 : decode cJ7_fill_53178 13 = .ok (.iastore, 1) := by decide +kernel
theorem dJ7_fill_53178_14 : decode cJ7_fill_53178 14 = .ok (.iinc 2 1, 3) := by decide +kernel
theorem dJ7_fill_53178_17 : decode cJ7_fill_53178 17 = .ok (.goto (-12), 3) := by decide +kernel
theorem dJ7_fill_53178_20 : decode cJ7_fill_53178 20 = .ok (.return_, 1) := by decide +kernel
theorem dL_cell_0 : decode cL_cell 0 = .ok (.iload_n 1, 1) := by decide +kernel
theorem dL_cell_1 : decode cL_cell 1 = .ok (.aload_n 0, 1) := by decide +kernel
theorem dL_cell_2 : decode cL_cell 2 = .ok (.arraylength, 1) := by decide +kernel
theorem dL_cell_3 : decode cL_cell 3 = .ok (.if_icmp .ge 9, 3) := by decide +kernel
theorem dL_cell_6 : decode cL_cell 6 = .ok (.aload_n 0, 1) := by decide +kernel
theorem dL_cell_7 : decode cL_cell 7 = .ok (.iload_n 1, 1) := by decide +kernel
theorem dL_cell_8 : decode cL_cell 8 = .ok (.iaload, 1) := by decide +kernel
theorem dL_cell_9 : decode cL_cell 9 = .ok (.goto 12, 3) := by decide +kernel
theorem dL_cell_12 : decode cL_cell 12 = .ok (.ldc 7, 2) := by decide +kernel
theorem dL_cell_14 : decode cL_cell 14 = .ok (.iload_n 1, 1) := by decide +kernel
theorem dL_cell_15 : decode cL_cell 15 = .ok (.iconst 5, 1) := by decide +kernel
theorem dL_cell_16 : decode cL_cell 16 = .ok (.iadd, 1) := by decide +kernel
theorem dL_cell_17 : decode cL_cell 17 = .ok (.imul, 1) := by decide +kernel
theorem dL_cell_18 : decode cL_cell 18 = .ok (.ldc 8, 2) := by decide +kernel
theorem dL_cell_20 : decode cL_cell 20 = .ok (.iadd, 1) := by decide +kernel
theorem dL_cell_21 : decode cL_cell 21 = .ok (.ireturn, 1) := by decide +kernel
theorem dL_low_0 : decode cL_low 0 = .ok (.iload_n 0, 1) := by decide +kernel
theorem dL_low_1 : decode cL_low 1 = .ok (.ldc 9, 2) := by decide +kernel
theorem dL_low_3 : decode cL_low 3 = .ok (.iand, 1) := by decide +kernel
theorem dL_low_4 : decode cL_low 4 = .ok (.iload_n 1, 1) := by decide +kernel
theorem dL_low_5 : decode cL_low 5 = .ok (.irem, 1) := by decide +kernel
theorem dL_low_6 : decode cL_low 6 = .ok (.ireturn, 1) := by decide +kernel
theorem dL_kerning_0 : decode cL_kerning 0 = .ok (.aload_n 0, 1) := by decide +kernel
theorem dL_kerning_1 : decode cL_kerning 1 = .ok (.iload_n 1, 1) := by decide +kernel
theorem dL_kerning_2 : decode cL_kerning 2 = .ok (.bipush 10, 2) := by decide +kernel
theorem dL_kerning_4 : decode cL_kerning 4 = .ok (.idiv, 1) := by decide +kernel
theorem dL_kerning_5 : decode cL_kerning 5 = .ok (.iload_n 1, 1) := by decide +kernel
theorem dL_kerning_6 : decode cL_kerning 6 = .ok (.bipush 10, 2) := by decide +kernel
theorem dL_kerning_8 : decode cL_kerning 8 = .ok (.irem, 1) := by decide +kernel
theorem dL_kerning_9 : decode cL_kerning 9 = .ok (.iconst 0, 1) := by decide +kernel
theorem dL_kerning_10 : decode cL_kerning 10 = .ok (.invokevirtual 10, 3) := by decide +kernel
theorem dL_kerning_13 : decode cL_kerning 13 = .ok (.ireturn, 1) := by decide +kernel
theorem dL_where_0 : decode cL_where 0 = .ok (.iconst 4, 1) := by decide +kernel
theorem dL_where_1 : decode cL_where 1 = .ok (.aload_n 0, 1) := by decide +kernel
theorem dL_where_2 : decode cL_where 2 = .ok (.iload_n 1, 1) := by decide +kernel
theorem dL_where_3 : decode cL_where 3 = .ok (.bipush 10, 2) := by decide +kernel
theorem dL_where_5 : decode cL_where 5 = .ok (.idiv, 1) := by decide +kernel
theorem dL_where_6 : decode cL_where 6 = .ok (.iconst 2, 1) := by decide +kernel
theorem dL_where_7 : decode cL_where 7 = .ok (.invokevirtual 16, 3) := by decide +kernel
theorem dL_where_10 : decode cL_where 10 = .ok (.imul, 1) := by decide +kernel
theorem dL_where_11 : decode cL_where 11 = .ok (.aload_n 0, 1) := by decide +kernel
theorem dL_where_12 : decode cL_where 12 = .ok (.iload_n 1, 1) := by decide +kernel
theorem dL_where_13 : decode cL_where 13 = .ok (.bipush 10, 2) := by decide +kernel
theorem dL_where_15 : decode cL_where 15 = .ok (.irem, 1) := by decide +kernel
theorem dL_where_16 : decode cL_where 16 = .ok (.iconst 1, 1) := by decide +kernel
theorem dL_where_17 : decode cL_where 17 = .ok (.invokevirtual 16, 3) := by decide +kernel
theorem dL_where_20 : decode cL_where 20 = .ok (.iadd, 1) := by decide +kernel
theorem dL_where_21 : decode cL_where 21 = .ok (.ireturn, 1) := by decide +kernel
theorem dL_arePairs_0 : decode cL_arePairs 0 = .ok (.iconst 0, 1) := by decide +kernel
theorem dL_arePairs_1 : decode cL_arePairs 1 = .ok (.istore_n 1, 1) := by decide +kernel
theorem dL_arePairs_2 : decode cL_arePairs 2 = .ok (.iconst 0, 1) := by decide +kernel
theorem dL_arePairs_3 : decode cL_arePairs 3 = .ok (.istore_n 2, 1) := by decide +kernel
theorem dL_arePairs_4 : decode cL_arePairs 4 = .ok (.iconst 0, 1) := by decide +kernel
theorem dL_arePairs_5 : decode cL_arePairs 5 = .ok (.istore_n 3, 1) := by decide +kernel
theorem dL_arePairs_6 : decode cL_arePairs 6 = .ok (.iconst 0, 1) := by decide +kernel
theorem dL_arePairs_7 : decode cL_arePairs 7 = .ok (.istore 4, 2) := by decide +kernel
theorem dL_arePairs_9 : decode cL_arePairs 9 = .ok (.iload 4, 2) := by decide +kernel
theorem dL_arePairs_11 : decode cL_arePairs 11 = .ok (.bipush 100, 2) := by decide +kernel
theorem dL_arePairs_13 : decode cL_arePairs 13 = .ok (.if_icmp .ge 235, 3) := by decide +kernel
theorem dL_arePairs_16 : decode cL_arePairs 16 = .ok (.aload_n 0, 1) := by decide +kernel
theorem dL_arePairs_17 : decode cL_arePairs 17 = .ok (.iload 4, 2) := by decide +kernel
theorem dL_arePairs_19 : decode cL_arePairs 19 = .ok (.invokestatic 20, 3) := by decide +kernel
theorem dL_arePairs_22 : decode cL_arePairs 22 = .ok (.istore 5, 2) := by decide +kernel
theorem dL_arePairs_24 : decode cL_arePairs 24 = .ok (.aload_n 0, 1) := by decide +kernel
theorem dL_arePairs_25 : decode cL_arePairs 25 = .ok (.iload 4, 2) := by decide +kernel
theorem dL_arePairs_27 : decode cL_arePairs 27 = .ok (.bipush 10, 2) := by decide +kernel
theorem dL_arePairs_29 : decode cL_arePairs 29 = .ok (.idiv, 1) := by decide +kernel
theorem dL_arePairs_30 : decode cL_arePairs 30 = .ok (.iload 4, 2) := by decide +kernel
theorem dL_arePairs_32 : decode cL_arePairs 32 = .ok (.bipush 10, 2) := by decide +kernel
theorem dL_arePairs_34 : decode cL_arePairs 34 = .ok (.irem, 1) := by decide +kernel
theorem dL_arePairs_35 : decode cL_arePairs 35 = .ok (.iconst 2, 1) := by decide +kernel
theorem dL_arePairs_36 : decode cL_arePairs 36 = .ok (.invokevirtual 10, 3) := by decide +kernel
theorem dL_arePairs_39 : decode cL_arePairs 39 = .ok (.istore 6, 2) := by decide +kernel
theorem dL_arePairs_41 : decode cL_arePairs 41 = .ok (.aload_n 0, 1) := by decide +kernel
theorem dL_arePairs_42 : decode cL_arePairs 42 = .ok (.iload 4, 2) := by decide +kernel
theorem dL_arePairs_44 : decode cL_arePairs 44 = .ok (.bipush 10, 2) := by decide +kernel
theorem dL_arePairs_46 : decode cL_arePairs 46 = .ok (.idiv, 1) := by decide +kernel
theorem dL_arePairs_47 : decode cL_arePairs 47 = .ok (.iload 4, 2) := by decide +kernel
theorem dL_arePairs_49 : decode cL_arePairs 49 = .ok (.bipush 10, 2) := by decide +kernel
theorem dL_arePairs_51 : decode cL_arePairs 51 = .ok (.irem, 1) := by decide +kernel
theorem dL_arePairs_52 : decode cL_arePairs 52 = .ok (.iconst 3, 1) := by decide +kernel
theorem dL_arePairs_53 : decode cL_arePairs 53 = .ok (.invokevirtual 10, 3) := by decide +kernel
theorem dL_arePairs_56 : decode cL_arePairs 56 = .ok (.istore 7, 2) := by decide +kernel
theorem dL_arePairs_58 : decode cL_arePairs 58 = .ok (.aload_n 0, 1) := by decide +kernel
theorem dL_arePairs_59 : decode cL_arePairs 59 = .ok (.iload 4, 2) := by decide +kernel
theorem dL_arePairs_61 : decode cL_arePairs 61 = .ok (.bipush 10, 2) := by decide +kernel
theorem dL_arePairs_63 : decode cL_arePairs 63 = .ok (.idiv, 1) := by decide +kernel
theorem dL_arePairs_64 : decode cL_arePairs 64 = .ok (.iload 4, 2) := by decide +kernel
theorem dL_arePairs_66 : decode cL_arePairs 66 = .ok (.bipush 10, 2) := by decide +kernel
theorem dL_arePairs_68 : decode cL_arePairs 68 = .ok (.irem, 1) := by decide +kernel
theorem dL_arePairs_69 : decode cL_arePairs 69 = .ok (.iconst 4, 1) := by decide +kernel
theorem dL_arePairs_70 : decode cL_arePairs 70 = .ok (.invokevirtual 10, 3) := by decide +kernel
theorem dL_arePairs_73 : decode cL_arePairs 73 = .ok (.istore 8, 2) := by decide +kernel
theorem dL_arePairs_75 : decode cL_arePairs 75 = .ok (.aload_n 0, 1) := by decide +kernel
theorem dL_arePairs_76 : decode cL_arePairs 76 = .ok (.aload_n 0, 1) := by decide +kernel
theorem dL_arePairs_77 : decode cL_arePairs 77 = .ok (.iload 4, 2) := by decide +kernel
theorem dL_arePairs_79 : decode cL_arePairs 79 = .ok (.invokestatic 26, 3) := by decide +kernel
theorem dL_arePairs_82 : decode cL_arePairs 82 = .ok (.iconst 4, 1) := by decide +kernel
theorem dL_arePairs_83 : decode cL_arePairs 83 = .ok (.idiv, 1) := by decide +kernel
theorem dL_arePairs_84 : decode cL_arePairs 84 = .ok (.aload_n 0, 1) := by decide +kernel
theorem dL_arePairs_85 : decode cL_arePairs 85 = .ok (.iload 4, 2) := by decide +kernel
theorem dL_arePairs_87 : decode cL_arePairs 87 = .ok (.invokestatic 26, 3) := by decide +kernel
theorem dL_arePairs_90 : decode cL_arePairs 90 = .ok (.iconst 4, 1) := by decide +kernel
theorem dL_arePairs_91 : decode cL_arePairs 91 = .ok (.irem, 1) := by decide +kernel
theorem dL_arePairs_92 : decode cL_arePairs 92 = .ok (.iconst 0, 1) := by decide +kernel
theorem dL_arePairs_93 : decode cL_arePairs 93 = .ok (.invokevirtual 29, 3) := by decide +kernel
theorem dL_arePairs_96 : decode cL_arePairs 96 = .ok (.istore 9, 2) := by decide +kernel
theorem dL_arePairs_98 : decode cL_arePairs 98 = .ok (.iload_n 1, 1) := by decide +kernel
theorem dL_arePairs_99 : decode cL_arePairs 99 = .ok (.iload 8, 2) := by decide +kernel
theorem dL_arePairs_101 : decode cL_arePairs 101 = .ok (.iadd, 1) := by decide +kernel
theorem dL_arePairs_102 : decode cL_arePairs 102 = .ok (.istore_n 1, 1) := by decide +kernel
theorem dL_arePairs_103 : decode cL_arePairs 103 = .ok (.iload_n 2, 1) := by decide +kernel
theorem dL_arePairs_104 : decode cL_arePairs 104 = .ok (.iload 8, 2) := by decide +kernel
theorem dL_arePairs_106 : decode cL_arePairs 106 = .ok (.ifCond .le 7, 3) := by decide +kernel
theorem dL_arePairs_109 : decode cL_arePairs 109 = .ok (.iconst 1, 1) := by decide +kernel
theorem dL_arePairs_110 : decode cL_arePairs 110 = .ok (.goto 4, 3) := by decide +kernel
theorem dL_arePairs_113 : decode cL_arePairs 113 = .ok (.iconst 0, 1) := by decide +kernel
theorem dL_arePairs_114 : decode cL_arePairs 114 = .ok (.iadd, 1) := by decide +kernel
theorem dL_arePairs_115 : decode cL_arePairs 115 = .ok (.istore_n 2, 1) := by decide +kernel
theorem dL_arePairs_116 : decode cL_arePairs 116 = .ok (.iload_n 3, 1) := by decide +kernel
theorem dL_arePairs_117 : decode cL_arePairs 117 = .ok (.iload 5, 2) := by decide +kernel
theorem dL_arePairs_119 : decode cL_arePairs 119 = .ok (.bipush 100, 2) := by decide +kernel
theorem dL_arePairs_121 : decode cL_arePairs 121 = .ok (.if_icmp .ge 7, 3) := by decide +kernel
theorem dL_arePairs_124 : decode cL_arePairs 124 = .ok (.iconst 1, 1) := by decide +kernel
theorem dL_arePairs_125 : decode cL_arePairs 125 = .ok (.goto 4, 3) := by decide +kernel
theorem dL_arePairs_128 : decode cL_arePairs 128 = .ok (.iconst 0, 1) := by decide +kernel
theorem dL_arePairs_129 : decode cL_arePairs 129 = .ok (.iadd, 1) := by decide +kernel
theorem dL_arePairs_130 : decode cL_arePairs 130 = .ok (.istore_n 3, 1) := by decide +kernel
theorem dL_arePairs_131 : decode cL_arePairs 131 = .ok (.iload 5, 2) := by decide +kernel
theorem dL_arePairs_133 : decode cL_arePairs 133 = .ok (.bipush 88, 2) := by decide +kernel
theorem dL_arePairs_135 : decode cL_arePairs 135 = .ok (.if_icmp .lt 97, 3) := by decide +kernel
theorem dL_arePairs_138 : decode cL_arePairs 138 = .ok (.iload 5, 2) := by decide +kernel
theorem dL_arePairs_140 : decode cL_arePairs 140 = .ok (.bipush 112, 2) := by decide +kernel
theorem dL_arePairs_142 : decode cL_arePairs 142 = .ok (.if_icmp .gt 90, 3) := by decide +kernel
theorem dL_arePairs_145 : decode cL_arePairs 145 = .ok (.iload 5, 2) := by decide +kernel
theorem dL_arePairs_147 : decode cL_arePairs 147 = .ok (.iload 9, 2) := by decide +kernel
theorem dL_arePairs_149 : decode cL_arePairs 149 = .ok (.iload 6, 2) := by decide +kernel
theorem dL_arePairs_151 : decode cL_arePairs 151 = .ok (.iadd, 1) := by decide +kernel
theorem dL_arePairs_152 : decode cL_arePairs 152 = .ok (.bipush 100, 2) := by decide +kernel
theorem dL_arePairs_154 : decode cL_arePairs 154 = .ok (.isub, 1) := by decide +kernel
theorem dL_arePairs_155 : decode cL_arePairs 155 = .ok (.if_icmp .ne 77, 3) := by decide +kernel
theorem dL_arePairs_158 : decode cL_arePairs 158 = .ok (.aload_n 0, 1) := by decide +kernel
theorem dL_arePairs_159 : decode cL_arePairs 159 = .ok (.iload 4, 2) := by decide +kernel
theorem dL_arePairs_161 : decode cL_arePairs 161 = .ok (.bipush 10, 2) := by decide +kernel
theorem dL_arePairs_163 : decode cL_arePairs 163 = .ok (.idiv, 1) := by decide +kernel
theorem dL_arePairs_164 : decode cL_arePairs 164 = .ok (.iload 4, 2) := by decide +kernel
theorem dL_arePairs_166 : decode cL_arePairs 166 = .ok (.bipush 10, 2) := by decide +kernel
theorem dL_arePairs_168 : decode cL_arePairs 168 = .ok (.irem, 1) := by decide +kernel
theorem dL_arePairs_169 : decode cL_arePairs 169 = .ok (.iconst 1, 1) := by decide +kernel
theorem dL_arePairs_170 : decode cL_arePairs 170 = .ok (.invokevirtual 10, 3) := by decide +kernel
theorem dL_arePairs_173 : decode cL_arePairs 173 = .ok (.iload 5, 2) := by decide +kernel
theorem dL_arePairs_175 : decode cL_arePairs 175 = .ok (.if_icmp .ne 57, 3) := by decide +kernel
theorem dL_arePairs_178 : decode cL_arePairs 178 = .ok (.iload 8, 2) := by decide +kernel
theorem dL_arePairs_180 : decode cL_arePairs 180 = .ok (.ifCond .gt 10, 3) := by decide +kernel
theorem dL_arePairs_183 : decode cL_arePairs 183 = .ok (.iload 6, 2) := by decide +kernel
theorem dL_arePairs_185 : decode cL_arePairs 185 = .ok (.bipush 100, 2) := by decide +kernel
theorem dL_arePairs_187 : decode cL_arePairs 187 = .ok (.if_icmp .ne 45, 3) := by decide +kernel
theorem dL_arePairs_190 : decode cL_arePairs 190 = .ok (.iload 7, 2) := by decide +kernel
theorem dL_arePairs_192 : decode cL_arePairs 192 = .ok (.ifCond .ne 7, 3) := by decide +kernel
theorem dL_arePairs_195 : decode cL_arePairs 195 = .ok (.iconst 1, 1) := by decide +kernel
theorem dL_arePairs_196 : decode cL_arePairs 196 = .ok (.goto 4, 3) := by decide +kernel
theorem dL_arePairs_199 : decode cL_arePairs 199 = .ok (.iconst 0, 1) := by decide +kernel
theorem dL_arePairs_200 : decode cL_arePairs 200 = .ok (.iload 8, 2) := by decide +kernel
theorem dL_arePairs_202 : decode cL_arePairs 202 = .ok (.ifCond .ne 7, 3) := by decide +kernel
theorem dL_arePairs_205 : decode cL_arePairs 205 = .ok (.iconst 1, 1) := by decide +kernel
theorem dL_arePairs_206 : decode cL_arePairs 206 = .ok (.goto 4, 3) := by decide +kernel
theorem dL_arePairs_209 : decode cL_arePairs 209 = .ok (.iconst 0, 1) := by decide +kernel
theorem dL_arePairs_210 : decode cL_arePairs 210 = .ok (.if_icmp .ne 22, 3) := by decide +kernel
theorem dL_arePairs_213 : decode cL_arePairs 213 = .ok (.iload 7, 2) := by decide +kernel
theorem dL_arePairs_215 : decode cL_arePairs 215 = .ok (.aload_n 0, 1) := by decide +kernel
theorem dL_arePairs_216 : decode cL_arePairs 216 = .ok (.iconst 0, 1) := by decide +kernel
theorem dL_arePairs_217 : decode cL_arePairs 217 = .ok (.invokevirtual 32, 3) := by decide +kernel
theorem dL_arePairs_220 : decode cL_arePairs 220 = .ok (.if_icmp .gt 12, 3) := by decide +kernel
theorem dL_arePairs_223 : decode cL_arePairs 223 = .ok (.iload 8, 2) := by decide +kernel
theorem dL_arePairs_225 : decode cL_arePairs 225 = .ok (.ifCond .lt 7, 3) := by decide +kernel
theorem dL_arePairs_228 : decode cL_arePairs 228 = .ok (.iconst 1, 1) := by decide +kernel
theorem dL_arePairs_229 : decode cL_arePairs 229 = .ok (.goto 4, 3) := by decide +kernel
theorem dL_arePairs_232 : decode cL_arePairs 232 = .ok (.iconst 0, 1) := by decide +kernel
theorem dL_arePairs_233 : decode cL_arePairs 233 = .ok (.istore 10, 2) := by decide +kernel
theorem dL_arePairs_235 : decode cL_arePairs 235 = .ok (.iload 10, 2) := by decide +kernel
theorem dL_arePairs_237 : decode cL_arePairs 237 = .ok (.ifCond .ne 5, 3) := by decide +kernel
theorem dL_arePairs_240 : decode cL_arePairs 240 = .ok (.iconst 0, 1) := by decide +kernel
theorem dL_arePairs_241 : decode cL_arePairs 241 = .ok (.ireturn, 1) := by decide +kernel
theorem dL_arePairs_242 : decode cL_arePairs 242 = .ok (.iinc 4 1, 3) := by decide +kernel
theorem dL_arePairs_245 : decode cL_arePairs 245 = .ok (.goto (-236), 3) := by decide +kernel
theorem dL_arePairs_248 : decode cL_arePairs 248 = .ok (.iload_n 1, 1) := by decide +kernel
theorem dL_arePairs_249 : decode cL_arePairs 249 = .ok (.aload_n 0, 1) := by decide +kernel
theorem dL_arePairs_250 : decode cL_arePairs 250 = .ok (.iconst 0, 1) := by decide +kernel
theorem dL_arePairs_251 : decode cL_arePairs 251 = .ok (.invokevirtual 36, 3) := by decide +kernel
theorem dL_arePairs_254 : decode cL_arePairs 254 = .ok (.aload_n 0, 1) := by decide +kernel
theorem dL_arePairs_255 : decode cL_arePairs 255 = .ok (.iconst 1, 1) := by decide +kernel
theorem dL_arePairs_256 : decode cL_arePairs 256 = .ok (.invokevirtual 36, 3) := by decide +kernel
theorem dL_arePairs_259 : decode cL_arePairs 259 = .ok (.isub, 1) := by decide +kernel
theorem dL_arePairs_260 : decode cL_arePairs 260 = .ok (.if_icmp .ne 30, 3) := by decide +kernel
theorem dL_arePairs_263 : decode cL_arePairs 263 = .ok (.iload_n 2, 1) := by decide +kernel
theorem dL_arePairs_264 : decode cL_arePairs 264 = .ok (.aload_n 0, 1) := by decide +kernel
theorem dL_arePairs_265 : decode cL_arePairs 265 = .ok (.iconst 2, 1) := by decide +kernel
theorem dL_arePairs_266 : decode cL_arePairs 266 = .ok (.invokevirtual 36, 3) := by decide +kernel
theorem dL_arePairs_269 : decode cL_arePairs 269 = .ok (.if_icmp .ne 21, 3) := by decide +kernel
theorem dL_arePairs_272 : decode cL_arePairs 272 = .ok (.aload_n 0, 1) := by decide +kernel
theorem dL_arePairs_273 : decode cL_arePairs 273 = .ok (.invokevirtual 39, 3) := by decide +kernel
theorem dL_arePairs_276 : decode cL_arePairs 276 = .ok (.iload_n 3, 1) := by decide +kernel
theorem dL_arePairs_277 : decode cL_arePairs 277 = .ok (.i2d, 1) := by decide +kernel
theorem dL_arePairs_278 : decode cL_arePairs 278 = .ok (.ldc2_w 43, 3) := by decide +kernel
theorem dL_arePairs_281 : decode cL_arePairs 281 = .ok (.ddiv, 1) := by decide +kernel
theorem dL_arePairs_282 : decode cL_arePairs 282 = .ok (.dcmp .l, 1) := by decide +kernel
theorem dL_arePairs_283 : decode cL_arePairs 283 = .ok (.ifCond .ne 7, 3) := by decide +kernel
theorem dL_arePairs_286 : decode cL_arePairs 286 = .ok (.iconst 1, 1) := by decide +kernel
theorem dL_arePairs_287 : decode cL_arePairs 287 = .ok (.goto 4, 3) := by decide +kernel
theorem dL_arePairs_290 : decode cL_arePairs 290 = .ok (.iconst 0, 1) := by decide +kernel
theorem dL_arePairs_291 : decode cL_arePairs 291 = .ok (.ireturn, 1) := by decide +kernel
theorem dL_areShapes_0 : decode cL_areShapes 0 = .ok (.iconst 0, 1) := by decide +kernel
theorem dL_areShapes_1 : decode cL_areShapes 1 = .ok (.istore_n 1, 1) := by decide +kernel
theorem dL_areShapes_2 : decode cL_areShapes 2 = .ok (.iconst 0, 1) := by decide +kernel
theorem dL_areShapes_3 : decode cL_areShapes 3 = .ok (.istore_n 2, 1) := by decide +kernel
theorem dL_areShapes_4 : decode cL_areShapes 4 = .ok (.iconst 0, 1) := by decide +kernel
theorem dL_areShapes_5 : decode cL_areShapes 5 = .ok (.istore_n 3, 1) := by decide +kernel
theorem dL_areShapes_6 : decode cL_areShapes 6 = .ok (.iconst 0, 1) := by decide +kernel
theorem dL_areShapes_7 : decode cL_areShapes 7 = .ok (.istore 4, 2) := by decide +kernel
theorem dL_areShapes_9 : decode cL_areShapes 9 = .ok (.iconst 0, 1) := by decide +kernel
theorem dL_areShapes_10 : decode cL_areShapes 10 = .ok (.istore 5, 2) := by decide +kernel
theorem dL_areShapes_12 : decode cL_areShapes 12 = .ok (.iload 5, 2) := by decide +kernel
theorem dL_areShapes_14 : decode cL_areShapes 14 = .ok (.bipush 16, 2) := by decide +kernel
theorem dL_areShapes_16 : decode cL_areShapes 16 = .ok (.if_icmp .ge 127, 3) := by decide +kernel
theorem dL_areShapes_19 : decode cL_areShapes 19 = .ok (.aload_n 0, 1) := by decide +kernel
theorem dL_areShapes_20 : decode cL_areShapes 20 = .ok (.iload 5, 2) := by decide +kernel
theorem dL_areShapes_22 : decode cL_areShapes 22 = .ok (.iconst 4, 1) := by decide +kernel
theorem dL_areShapes_23 : decode cL_areShapes 23 = .ok (.idiv, 1) := by decide +kernel
theorem dL_areShapes_24 : decode cL_areShapes 24 = .ok (.iload 5, 2) := by decide +kernel
theorem dL_areShapes_26 : decode cL_areShapes 26 = .ok (.iconst 4, 1) := by decide +kernel
theorem dL_areShapes_27 : decode cL_areShapes 27 = .ok (.irem, 1) := by decide +kernel
theorem dL_areShapes_28 : decode cL_areShapes 28 = .ok (.iconst 0, 1) := by decide +kernel
theorem dL_areShapes_29 : decode cL_areShapes 29 = .ok (.invokevirtual 29, 3) := by decide +kernel
theorem dL_areShapes_32 : decode cL_areShapes 32 = .ok (.istore 6, 2) := by decide +kernel
theorem dL_areShapes_34 : decode cL_areShapes 34 = .ok (.iload_n 1, 1) := by decide +kernel
theorem dL_areShapes_35 : decode cL_areShapes 35 = .ok (.aload_n 0, 1) := by decide +kernel
theorem dL_areShapes_36 : decode cL_areShapes 36 = .ok (.iload 5, 2) := by decide +kernel
theorem dL_areShapes_38 : decode cL_areShapes 38 = .ok (.iconst 4, 1) := by decide +kernel
theorem dL_areShapes_39 : decode cL_areShapes 39 = .ok (.idiv, 1) := by decide +kernel
theorem dL_areShapes_40 : decode cL_areShapes 40 = .ok (.iload 5, 2) := by decide +kernel
theorem dL_areShapes_42 : decode cL_areShapes 42 = .ok (.iconst 4, 1) := by decide +kernel
theorem dL_areShapes_43 : decode cL_areShapes 43 = .ok (.irem, 1) := by decide +kernel
theorem dL_areShapes_44 : decode cL_areShapes 44 = .ok (.iconst 2, 1) := by decide +kernel
theorem dL_areShapes_45 : decode cL_areShapes 45 = .ok (.invokevirtual 29, 3) := by decide +kernel
theorem dL_areShapes_48 : decode cL_areShapes 48 = .ok (.iadd, 1) := by decide +kernel
theorem dL_areShapes_49 : decode cL_areShapes 49 = .ok (.istore_n 1, 1) := by decide +kernel
theorem dL_areShapes_50 : decode cL_areShapes 50 = .ok (.iload_n 2, 1) := by decide +kernel
theorem dL_areShapes_51 : decode cL_areShapes 51 = .ok (.aload_n 0, 1) := by decide +kernel
theorem dL_areShapes_52 : decode cL_areShapes 52 = .ok (.iload 5, 2) := by decide +kernel
theorem dL_areShapes_54 : decode cL_areShapes 54 = .ok (.iconst 4, 1) := by decide +kernel
theorem dL_areShapes_55 : decode cL_areShapes 55 = .ok (.idiv, 1) := by decide +kernel
theorem dL_areShapes_56 : decode cL_areShapes 56 = .ok (.iload 5, 2) := by decide +kernel
theorem dL_areShapes_58 : decode cL_areShapes 58 = .ok (.iconst 4, 1) := by decide +kernel
theorem dL_areShapes_59 : decode cL_areShapes 59 = .ok (.irem, 1) := by decide +kernel
theorem dL_areShapes_60 : decode cL_areShapes 60 = .ok (.iconst 3, 1) := by decide +kernel
theorem dL_areShapes_61 : decode cL_areShapes 61 = .ok (.invokevirtual 29, 3) := by decide +kernel
theorem dL_areShapes_64 : decode cL_areShapes 64 = .ok (.iadd, 1) := by decide +kernel
theorem dL_areShapes_65 : decode cL_areShapes 65 = .ok (.istore_n 2, 1) := by decide +kernel
theorem dL_areShapes_66 : decode cL_areShapes 66 = .ok (.iload_n 3, 1) := by decide +kernel
theorem dL_areShapes_67 : decode cL_areShapes 67 = .ok (.iload 6, 2) := by decide +kernel
theorem dL_areShapes_69 : decode cL_areShapes 69 = .ok (.aload_n 0, 1) := by decide +kernel
theorem dL_areShapes_70 : decode cL_areShapes 70 = .ok (.iload 5, 2) := by decide +kernel
theorem dL_areShapes_72 : decode cL_areShapes 72 = .ok (.iconst 4, 1) := by decide +kernel
theorem dL_areShapes_73 : decode cL_areShapes 73 = .ok (.idiv, 1) := by decide +kernel
theorem dL_areShapes_74 : decode cL_areShapes 74 = .ok (.iload 5, 2) := by decide +kernel
theorem dL_areShapes_76 : decode cL_areShapes 76 = .ok (.iconst 4, 1) := by decide +kernel
theorem dL_areShapes_77 : decode cL_areShapes 77 = .ok (.irem, 1) := by decide +kernel
theorem dL_areShapes_78 : decode cL_areShapes 78 = .ok (.iconst 1, 1) := by decide +kernel
theorem dL_areShapes_79 : decode cL_areShapes 79 = .ok (.invokevirtual 29, 3) := by decide +kernel
theorem dL_areShapes_82 : decode cL_areShapes 82 = .ok (.if_icmp .eq 7, 3) := by decide +kernel
theorem dL_areShapes_85 : decode cL_areShapes 85 = .ok (.iconst 1, 1) := by decide +kernel
theorem dL_areShapes_86 : decode cL_areShapes 86 = .ok (.goto 4, 3) := by decide +kernel
theorem dL_areShapes_89 : decode cL_areShapes 89 = .ok (.iconst 0, 1) := by decide +kernel
theorem dL_areShapes_90 : decode cL_areShapes 90 = .ok (.iadd, 1) := by decide +kernel
theorem dL_areShapes_91 : decode cL_areShapes 91 = .ok (.istore_n 3, 1) := by decide +kernel
theorem dL_areShapes_92 : decode cL_areShapes 92 = .ok (.iload 6, 2) := by decide +kernel
theorem dL_areShapes_94 : decode cL_areShapes 94 = .ok (.bipush 88, 2) := by decide +kernel
theorem dL_areShapes_96 : decode cL_areShapes 96 = .ok (.if_icmp .lt 39, 3) := by decide +kernel
theorem dL_areShapes_99 : decode cL_areShapes 99 = .ok (.iload 6, 2) := by decide +kernel
theorem dL_areShapes_101 : decode cL_areShapes 101 = .ok (.bipush 112, 2) := by decide +kernel
theorem dL_areShapes_103 : decode cL_areShapes 103 = .ok (.if_icmp .gt 32, 3) := by decide +kernel
theorem dL_areShapes_106 : decode cL_areShapes 106 = .ok (.aload_n 0, 1) := by decide +kernel
theorem dL_areShapes_107 : decode cL_areShapes 107 = .ok (.iload 5, 2) := by decide +kernel
theorem dL_areShapes_109 : decode cL_areShapes 109 = .ok (.iconst 4, 1) := by decide +kernel
theorem dL_areShapes_110 : decode cL_areShapes 110 = .ok (.idiv, 1) := by decide +kernel
theorem dL_areShapes_111 : decode cL_areShapes 111 = .ok (.iload 5, 2) := by decide +kernel
theorem dL_areShapes_113 : decode cL_areShapes 113 = .ok (.iconst 4, 1) := by decide +kernel
theorem dL_areShapes_114 : decode cL_areShapes 114 = .ok (.irem, 1) := by decide +kernel
theorem dL_areShapes_115 : decode cL_areShapes 115 = .ok (.iconst 3, 1) := by decide +kernel
theorem dL_areShapes_116 : decode cL_areShapes 116 = .ok (.invokevirtual 29, 3) := by decide +kernel
theorem dL_areShapes_119 : decode cL_areShapes 119 = .ok (.aload_n 0, 1) := by decide +kernel
theorem dL_areShapes_120 : decode cL_areShapes 120 = .ok (.iload 5, 2) := by decide +kernel
theorem dL_areShapes_122 : decode cL_areShapes 122 = .ok (.iconst 4, 1) := by decide +kernel
theorem dL_areShapes_123 : decode cL_areShapes 123 = .ok (.idiv, 1) := by decide +kernel
theorem dL_areShapes_124 : decode cL_areShapes 124 = .ok (.iload 5, 2) := by decide +kernel
theorem dL_areShapes_126 : decode cL_areShapes 126 = .ok (.iconst 4, 1) := by decide +kernel
theorem dL_areShapes_127 : decode cL_areShapes 127 = .ok (.irem, 1) := by decide +kernel
theorem dL_areShapes_128 : decode cL_areShapes 128 = .ok (.iconst 2, 1) := by decide +kernel
theorem dL_areShapes_129 : decode cL_areShapes 129 = .ok (.invokevirtual 29, 3) := by decide +kernel
theorem dL_areShapes_132 : decode cL_areShapes 132 = .ok (.if_icmp .le 5, 3) := by decide +kernel
theorem dL_areShapes_135 : decode cL_areShapes 135 = .ok (.iconst 0, 1) := by decide +kernel
theorem dL_areShapes_136 : decode cL_areShapes 136 = .ok (.ireturn, 1) := by decide +kernel
theorem dL_areShapes_137 : decode cL_areShapes 137 = .ok (.iinc 5 1, 3) := by decide +kernel
theorem dL_areShapes_140 : decode cL_areShapes 140 = .ok (.goto (-128), 3) := by decide +kernel
theorem dL_areShapes_143 : decode cL_areShapes 143 = .ok (.iconst 0, 1) := by decide +kernel
theorem dL_areShapes_144 : decode cL_areShapes 144 = .ok (.istore 5, 2) := by decide +kernel
theorem dL_areShapes_146 : decode cL_areShapes 146 = .ok (.iload 5, 2) := by decide +kernel
theorem dL_areShapes_148 : decode cL_areShapes 148 = .ok (.bipush 10, 2) := by decide +kernel
theorem dL_areShapes_150 : decode cL_areShapes 150 = .ok (.if_icmp .ge 21, 3) := by decide +kernel
theorem dL_areShapes_153 : decode cL_areShapes 153 = .ok (.iload 4, 2) := by decide +kernel
theorem dL_areShapes_155 : decode cL_areShapes 155 = .ok (.aload_n 0, 1) := by decide +kernel
theorem dL_areShapes_156 : decode cL_areShapes 156 = .ok (.iload 5, 2) := by decide +kernel
theorem dL_areShapes_158 : decode cL_areShapes 158 = .ok (.iconst 3, 1) := by decide +kernel
theorem dL_areShapes_159 : decode cL_areShapes 159 = .ok (.invokevirtual 16, 3) := by decide +kernel
theorem dL_areShapes_162 : decode cL_areShapes 162 = .ok (.iadd, 1) := by decide +kernel
theorem dL_areShapes_163 : decode cL_areShapes 163 = .ok (.istore 4, 2) := by decide +kernel
theorem dL_areShapes_165 : decode cL_areShapes 165 = .ok (.iinc 5 1, 3) := by decide +kernel
theorem dL_areShapes_168 : decode cL_areShapes 168 = .ok (.goto (-22), 3) := by decide +kernel
theorem dL_areShapes_171 : decode cL_areShapes 171 = .ok (.iload_n 1, 1) := by decide +kernel
theorem dL_areShapes_172 : decode cL_areShapes 172 = .ok (.bipush 100, 2) := by decide +kernel
theorem dL_areShapes_174 : decode cL_areShapes 174 = .ok (.if_icmp .ne 101, 3) := by decide +kernel
theorem dL_areShapes_177 : decode cL_areShapes 177 = .ok (.iload_n 2, 1) := by decide +kernel
theorem dL_areShapes_178 : decode cL_areShapes 178 = .ok (.aload_n 0, 1) := by decide +kernel
theorem dL_areShapes_179 : decode cL_areShapes 179 = .ok (.iconst 2, 1) := by decide +kernel
theorem dL_areShapes_180 : decode cL_areShapes 180 = .ok (.invokevirtual 36, 3) := by decide +kernel
theorem dL_areShapes_183 : decode cL_areShapes 183 = .ok (.if_icmp .ne 92, 3) := by decide +kernel
theorem dL_areShapes_186 : decode cL_areShapes 186 = .ok (.iload_n 3, 1) := by decide +kernel
theorem dL_areShapes_187 : decode cL_areShapes 187 = .ok (.aload_n 0, 1) := by decide +kernel
theorem dL_areShapes_188 : decode cL_areShapes 188 = .ok (.iconst 3, 1) := by decide +kernel
theorem dL_areShapes_189 : decode cL_areShapes 189 = .ok (.invokevirtual 36, 3) := by decide +kernel
theorem dL_areShapes_192 : decode cL_areShapes 192 = .ok (.if_icmp .ne 83, 3) := by decide +kernel
theorem dL_areShapes_195 : decode cL_areShapes 195 = .ok (.iload 4, 2) := by decide +kernel
theorem dL_areShapes_197 : decode cL_areShapes 197 = .ok (.iconst 2, 1) := by decide +kernel
theorem dL_areShapes_198 : decode cL_areShapes 198 = .ok (.aload_n 0, 1) := by decide +kernel
theorem dL_areShapes_199 : decode cL_areShapes 199 = .ok (.iconst 0, 1) := by decide +kernel
theorem dL_areShapes_200 : decode cL_areShapes 200 = .ok (.invokevirtual 36, 3) := by decide +kernel
theorem dL_areShapes_203 : decode cL_areShapes 203 = .ok (.imul, 1) := by decide +kernel
theorem dL_areShapes_204 : decode cL_areShapes 204 = .ok (.if_icmp .ne 71, 3) := by decide +kernel
theorem dL_areShapes_207 : decode cL_areShapes 207 = .ok (.aload_n 0, 1) := by decide +kernel
theorem dL_areShapes_208 : decode cL_areShapes 208 = .ok (.iconst 0, 1) := by decide +kernel
theorem dL_areShapes_209 : decode cL_areShapes 209 = .ok (.invokevirtual 36, 3) := by decide +kernel
theorem dL_areShapes_212 : decode cL_areShapes 212 = .ok (.ifCond .gt 7, 3) := by decide +kernel
theorem dL_areShapes_215 : decode cL_areShapes 215 = .ok (.iload_n 3, 1) := by decide +kernel
theorem dL_areShapes_216 : decode cL_areShapes 216 = .ok (.ifCond .ne 59, 3) := by decide +kernel
theorem dL_areShapes_219 : decode cL_areShapes 219 = .ok (.aload_n 0, 1) := by decide +kernel
theorem dL_areShapes_220 : decode cL_areShapes 220 = .ok (.iconst 0, 1) := by decide +kernel
theorem dL_areShapes_221 : decode cL_areShapes 221 = .ok (.invokevirtual 36, 3) := by decide +kernel
theorem dL_areShapes_224 : decode cL_areShapes 224 = .ok (.bipush 40, 2) := by decide +kernel
theorem dL_areShapes_226 : decode cL_areShapes 226 = .ok (.if_icmp .gt 49, 3) := by decide +kernel
theorem dL_areShapes_229 : decode cL_areShapes 229 = .ok (.aload_n 0, 1) := by decide +kernel
theorem dL_areShapes_230 : decode cL_areShapes 230 = .ok (.iconst 1, 1) := by decide +kernel
theorem dL_areShapes_231 : decode cL_areShapes 231 = .ok (.invokevirtual 36, 3) := by decide +kernel
theorem dL_areShapes_234 : decode cL_areShapes 234 = .ok (.aload_n 0, 1) := by decide +kernel
theorem dL_areShapes_235 : decode cL_areShapes 235 = .ok (.iconst 0, 1) := by decide +kernel
theorem dL_areShapes_236 : decode cL_areShapes 236 = .ok (.invokevirtual 36, 3) := by decide +kernel
theorem dL_areShapes_239 : decode cL_areShapes 239 = .ok (.if_icmp .gt 36, 3) := by decide +kernel
theorem dL_areShapes_242 : decode cL_areShapes 242 = .ok (.aload_n 0, 1) := by decide +kernel
theorem dL_areShapes_243 : decode cL_areShapes 243 = .ok (.invokevirtual 45, 3) := by decide +kernel
theorem dL_areShapes_246 : decode cL_areShapes 246 = .ok (.iconst (-1), 1) := by decide +kernel
theorem dL_areShapes_247 : decode cL_areShapes 247 = .ok (.if_icmp .ne 7, 3) := by decide +kernel
theorem dL_areShapes_250 : decode cL_areShapes 250 = .ok (.iconst 1, 1) := by decide +kernel
theorem dL_areShapes_251 : decode cL_areShapes 251 = .ok (.goto 4, 3) := by decide +kernel
theorem dL_areShapes_254 : decode cL_areShapes 254 = .ok (.iconst 0, 1) := by decide +kernel
theorem dL_areShapes_255 : decode cL_areShapes 255 = .ok (.aload_n 0, 1) := by decide +kernel
theorem dL_areShapes_256 : decode cL_areShapes 256 = .ok (.iconst 0, 1) := by decide +kernel
theorem dL_areShapes_257 : decode cL_areShapes 257 = .ok (.invokevirtual 36, 3) := by decide +kernel
theorem dL_areShapes_260 : decode cL_areShapes 260 = .ok (.ifCond .ne 7, 3) := by decide +kernel
theorem dL_areShapes_263 : decode cL_areShapes 263 = .ok (.iconst 1, 1) := by decide +kernel
theorem dL_areShapes_264 : decode cL_areShapes 264 = .ok (.goto 4, 3) := by decide +kernel
theorem dL_areShapes_267 : decode cL_areShapes 267 = .ok (.iconst 0, 1) := by decide +kernel
theorem dL_areShapes_268 : decode cL_areShapes 268 = .ok (.if_icmp .ne 7, 3) := by decide +kernel
theorem dL_areShapes_271 : decode cL_areShapes 271 = .ok (.iconst 1, 1) := by decide +kernel
theorem dL_areShapes_272 : decode cL_areShapes 272 = .ok (.goto 4, 3) := by decide +kernel
theorem dL_areShapes_275 : decode cL_areShapes 275 = .ok (.iconst 0, 1) := by decide +kernel
theorem dL_areShapes_276 : decode cL_areShapes 276 = .ok (.ireturn, 1) := by decide +kernel
theorem dL_tale_0 : decode cL_tale 0 = .ok (.ldc2_w 49, 3) := by decide +kernel
theorem dL_tale_3 : decode cL_tale 3 = .ok (.lstore_n 1, 1) := by decide +kernel
theorem dL_tale_4 : decode cL_tale 4 = .ok (.iconst 0, 1) := by decide +kernel
theorem dL_tale_5 : decode cL_tale 5 = .ok (.istore_n 3, 1) := by decide +kernel
theorem dL_tale_6 : decode cL_tale 6 = .ok (.iload_n 3, 1) := by decide +kernel
theorem dL_tale_7 : decode cL_tale 7 = .ok (.bipush 6, 2) := by decide +kernel
theorem dL_tale_9 : decode cL_tale 9 = .ok (.if_icmp .ge 22, 3) := by decide +kernel
theorem dL_tale_12 : decode cL_tale 12 = .ok (.ldc2_w 51, 3) := by decide +kernel
theorem dL_tale_15 : decode cL_tale 15 = .ok (.lload_n 1, 1) := by decide +kernel
theorem dL_tale_16 : decode cL_tale 16 = .ok (.lmul, 1) := by decide +kernel
theorem dL_tale_17 : decode cL_tale 17 = .ok (.aload_n 0, 1) := by decide +kernel
theorem dL_tale_18 : decode cL_tale 18 = .ok (.iload_n 3, 1) := by decide +kernel
theorem dL_tale_19 : decode cL_tale 19 = .ok (.invokevirtual 36, 3) := by decide +kernel
theorem dL_tale_22 : decode cL_tale 22 = .ok (.i2l, 1) := by decide +kernel
theorem dL_tale_23 : decode cL_tale 23 = .ok (.ladd, 1) := by decide +kernel
theorem dL_tale_24 : decode cL_tale 24 = .ok (.lstore_n 1, 1) := by decide +kernel
theorem dL_tale_25 : decode cL_tale 25 = .ok (.iinc 3 1, 3) := by decide +kernel
theorem dL_tale_28 : decode cL_tale 28 = .ok (.goto (-22), 3) := by decide +kernel
theorem dL_tale_31 : decode cL_tale 31 = .ok (.iconst 0, 1) := by decide +kernel
theorem dL_tale_32 : decode cL_tale 32 = .ok (.istore_n 3, 1) := by decide +kernel
theorem dL_tale_33 : decode cL_tale 33 = .ok (.iload_n 3, 1) := by decide +kernel
theorem dL_tale_34 : decode cL_tale 34 = .ok (.bipush 100, 2) := by decide +kernel
theorem dL_tale_36 : decode cL_tale 36 = .ok (.if_icmp .ge 68, 3) := by decide +kernel
theorem dL_tale_39 : decode cL_tale 39 = .ok (.ldc2_w 51, 3) := by decide +kernel
theorem dL_tale_42 : decode cL_tale 42 = .ok (.ldc2_w 51, 3) := by decide +kernel
theorem dL_tale_45 : decode cL_tale 45 = .ok (.ldc2_w 51, 3) := by decide +kernel
theorem dL_tale_48 : decode cL_tale 48 = .ok (.lload_n 1, 1) := by decide +kernel
theorem dL_tale_49 : decode cL_tale 49 = .ok (.lmul, 1) := by decide +kernel
theorem dL_tale_50 : decode cL_tale 50 = .ok (.aload_n 0, 1) := by decide +kernel
theorem dL_tale_51 : decode cL_tale 51 = .ok (.iload_n 3, 1) := by decide +kernel
theorem dL_tale_52 : decode cL_tale 52 = .ok (.bipush 10, 2) := by decide +kernel
theorem dL_tale_54 : decode cL_tale 54 = .ok (.idiv, 1) := by decide +kernel
theorem dL_tale_55 : decode cL_tale 55 = .ok (.iload_n 3, 1) := by decide +kernel
theorem dL_tale_56 : decode cL_tale 56 = .ok (.bipush 10, 2) := by decide +kernel
theorem dL_tale_58 : decode cL_tale 58 = .ok (.irem, 1) := by decide +kernel
theorem dL_tale_59 : decode cL_tale 59 = .ok (.iconst 0, 1) := by decide +kernel
theorem dL_tale_60 : decode cL_tale 60 = .ok (.invokevirtual 10, 3) := by decide +kernel
theorem dL_tale_63 : decode cL_tale 63 = .ok (.i2l, 1) := by decide +kernel
theorem dL_tale_64 : decode cL_tale 64 = .ok (.ladd, 1) := by decide +kernel
theorem dL_tale_65 : decode cL_tale 65 = .ok (.lmul, 1) := by decide +kernel
theorem dL_tale_66 : decode cL_tale 66 = .ok (.aload_n 0, 1) := by decide +kernel
theorem dL_tale_67 : decode cL_tale 67 = .ok (.iload_n 3, 1) := by decide +kernel
theorem dL_tale_68 : decode cL_tale 68 = .ok (.bipush 10, 2) := by decide +kernel
theorem dL_tale_70 : decode cL_tale 70 = .ok (.idiv, 1) := by decide +kernel
theorem dL_tale_71 : decode cL_tale 71 = .ok (.iload_n 3, 1) := by decide +kernel
theorem dL_tale_72 : decode cL_tale 72 = .ok (.bipush 10, 2) := by decide +kernel
theorem dL_tale_74 : decode cL_tale 74 = .ok (.irem, 1) := by decide +kernel
theorem dL_tale_75 : decode cL_tale 75 = .ok (.iconst 2, 1) := by decide +kernel
theorem dL_tale_76 : decode cL_tale 76 = .ok (.invokevirtual 10, 3) := by decide +kernel
theorem dL_tale_79 : decode cL_tale 79 = .ok (.i2l, 1) := by decide +kernel
theorem dL_tale_80 : decode cL_tale 80 = .ok (.ladd, 1) := by decide +kernel
theorem dL_tale_81 : decode cL_tale 81 = .ok (.lmul, 1) := by decide +kernel
theorem dL_tale_82 : decode cL_tale 82 = .ok (.aload_n 0, 1) := by decide +kernel
theorem dL_tale_83 : decode cL_tale 83 = .ok (.iload_n 3, 1) := by decide +kernel
theorem dL_tale_84 : decode cL_tale 84 = .ok (.bipush 10, 2) := by decide +kernel
theorem dL_tale_86 : decode cL_tale 86 = .ok (.idiv, 1) := by decide +kernel
theorem dL_tale_87 : decode cL_tale 87 = .ok (.iload_n 3, 1) := by decide +kernel
theorem dL_tale_88 : decode cL_tale 88 = .ok (.bipush 10, 2) := by decide +kernel
theorem dL_tale_90 : decode cL_tale 90 = .ok (.irem, 1) := by decide +kernel
theorem dL_tale_91 : decode cL_tale 91 = .ok (.iconst 3, 1) := by decide +kernel
theorem dL_tale_92 : decode cL_tale 92 = .ok (.invokevirtual 10, 3) := by decide +kernel
theorem dL_tale_95 : decode cL_tale 95 = .ok (.i2l, 1) := by decide +kernel
theorem dL_tale_96 : decode cL_tale 96 = .ok (.ladd, 1) := by decide +kernel
theorem dL_tale_97 : decode cL_tale 97 = .ok (.lstore_n 1, 1) := by decide +kernel
theorem dL_tale_98 : decode cL_tale 98 = .ok (.iinc 3 1, 3) := by decide +kernel
theorem dL_tale_101 : decode cL_tale 101 = .ok (.goto (-68), 3) := by decide +kernel
theorem dL_tale_104 : decode cL_tale 104 = .ok (.iconst 0, 1) := by decide +kernel
theorem dL_tale_105 : decode cL_tale 105 = .ok (.istore_n 3, 1) := by decide +kernel
theorem dL_tale_106 : decode cL_tale 106 = .ok (.iload_n 3, 1) := by decide +kernel
theorem dL_tale_107 : decode cL_tale 107 = .ok (.bipush 40, 2) := by decide +kernel
theorem dL_tale_109 : decode cL_tale 109 = .ok (.if_icmp .ge 27, 3) := by decide +kernel
theorem dL_tale_112 : decode cL_tale 112 = .ok (.ldc2_w 51, 3) := by decide +kernel
theorem dL_tale_115 : decode cL_tale 115 = .ok (.lload_n 1, 1) := by decide +kernel
theorem dL_tale_116 : decode cL_tale 116 = .ok (.lmul, 1) := by decide +kernel
theorem dL_tale_117 : decode cL_tale 117 = .ok (.aload_n 0, 1) := by decide +kernel
theorem dL_tale_118 : decode cL_tale 118 = .ok (.iload_n 3, 1) := by decide +kernel
theorem dL_tale_119 : decode cL_tale 119 = .ok (.iconst 4, 1) := by decide +kernel
theorem dL_tale_120 : decode cL_tale 120 = .ok (.idiv, 1) := by decide +kernel
theorem dL_tale_121 : decode cL_tale 121 = .ok (.iload_n 3, 1) := by decide +kernel
theorem dL_tale_122 : decode cL_tale 122 = .ok (.iconst 4, 1) := by decide +kernel
theorem dL_tale_123 : decode cL_tale 123 = .ok (.irem, 1) := by decide +kernel
theorem dL_tale_124 : decode cL_tale 124 = .ok (.invokevirtual 16, 3) := by decide +kernel
theorem dL_tale_127 : decode cL_tale 127 = .ok (.i2l, 1) := by decide +kernel
theorem dL_tale_128 : decode cL_tale 128 = .ok (.ladd, 1) := by decide +kernel
theorem dL_tale_129 : decode cL_tale 129 = .ok (.lstore_n 1, 1) := by decide +kernel
theorem dL_tale_130 : decode cL_tale 130 = .ok (.iinc 3 1, 3) := by decide +kernel
theorem dL_tale_133 : decode cL_tale 133 = .ok (.goto (-27), 3) := by decide +kernel
theorem dL_tale_136 : decode cL_tale 136 = .ok (.iconst 0, 1) := by decide +kernel
theorem dL_tale_137 : decode cL_tale 137 = .ok (.istore_n 3, 1) := by decide +kernel
theorem dL_tale_138 : decode cL_tale 138 = .ok (.iload_n 3, 1) := by decide +kernel
theorem dL_tale_139 : decode cL_tale 139 = .ok (.iconst 4, 1) := by decide +kernel
theorem dL_tale_140 : decode cL_tale 140 = .ok (.aload_n 0, 1) := by decide +kernel
theorem dL_tale_141 : decode cL_tale 141 = .ok (.iconst 0, 1) := by decide +kernel
theorem dL_tale_142 : decode cL_tale 142 = .ok (.invokevirtual 36, 3) := by decide +kernel
theorem dL_tale_145 : decode cL_tale 145 = .ok (.imul, 1) := by decide +kernel
theorem dL_tale_146 : decode cL_tale 146 = .ok (.if_icmp .ge 27, 3) := by decide +kernel
theorem dL_tale_149 : decode cL_tale 149 = .ok (.ldc2_w 51, 3) := by decide +kernel
theorem dL_tale_152 : decode cL_tale 152 = .ok (.lload_n 1, 1) := by decide +kernel
theorem dL_tale_153 : decode cL_tale 153 = .ok (.lmul, 1) := by decide +kernel
theorem dL_tale_154 : decode cL_tale 154 = .ok (.aload_n 0, 1) := by decide +kernel
theorem dL_tale_155 : decode cL_tale 155 = .ok (.iload_n 3, 1) := by decide +kernel
theorem dL_tale_156 : decode cL_tale 156 = .ok (.iconst 4, 1) := by decide +kernel
theorem dL_tale_157 : decode cL_tale 157 = .ok (.idiv, 1) := by decide +kernel
theorem dL_tale_158 : decode cL_tale 158 = .ok (.iload_n 3, 1) := by decide +kernel
theorem dL_tale_159 : decode cL_tale 159 = .ok (.iconst 4, 1) := by decide +kernel
theorem dL_tale_160 : decode cL_tale 160 = .ok (.irem, 1) := by decide +kernel
theorem dL_tale_161 : decode cL_tale 161 = .ok (.invokevirtual 53, 3) := by decide +kernel
theorem dL_tale_164 : decode cL_tale 164 = .ok (.i2l, 1) := by decide +kernel
theorem dL_tale_165 : decode cL_tale 165 = .ok (.ladd, 1) := by decide +kernel
theorem dL_tale_166 : decode cL_tale 166 = .ok (.lstore_n 1, 1) := by decide +kernel
theorem dL_tale_167 : decode cL_tale 167 = .ok (.iinc 3 1, 3) := by decide +kernel
theorem dL_tale_170 : decode cL_tale 170 = .ok (.goto (-32), 3) := by decide +kernel
theorem dL_tale_173 : decode cL_tale 173 = .ok (.lload_n 1, 1) := by decide +kernel
theorem dL_tale_174 : decode cL_tale 174 = .ok (.lreturn, 1) := by decide +kernel
theorem dL_circles_0 : decode cL_circles 0 = .ok (.bipush 50, 2) := by decide +kernel
theorem dL_circles_2 : decode cL_circles 2 = .ok (.newarray .int, 2) := by decide +kernel
theorem dL_circles_4 : decode cL_circles 4 = .ok (.astore_n 3, 1) := by decide +kernel
theorem dL_circles_5 : decode cL_circles 5 = .ok (.bipush 50, 2) := by decide +kernel
theorem dL_circles_7 : decode cL_circles 7 = .ok (.newarray .int, 2) := by decide +kernel
theorem dL_circles_9 : decode cL_circles 9 = .ok (.astore 4, 2) := by decide +kernel
theorem dL_circles_11 : decode cL_circles 11 = .ok (.aload_n 0, 1) := by decide +kernel
theorem dL_circles_12 : decode cL_circles 12 = .ok (.iload_n 1, 1) := by decide +kernel
theorem dL_circles_13 : decode cL_circles 13 = .ok (.invokestatic 20, 3) := by decide +kernel
theorem dL_circles_16 : decode cL_circles 16 = .ok (.istore 5, 2) := by decide +kernel
theorem dL_circles_18 : decode cL_circles 18 = .ok (.aload_n 0, 1) := by decide +kernel
theorem dL_circles_19 : decode cL_circles 19 = .ok (.iconst 0, 1) := by decide +kernel
theorem dL_circles_20 : decode cL_circles 20 = .ok (.invokevirtual 36, 3) := by decide +kernel
theorem dL_circles_23 : decode cL_circles 23 = .ok (.istore 6, 2) := by decide +kernel
theorem dL_circles_25 : decode cL_circles 25 = .ok (.aload_n 0, 1) := by decide +kernel
theorem dL_circles_26 : decode cL_circles 26 = .ok (.iconst 4, 1) := by decide +kernel
theorem dL_circles_27 : decode cL_circles 27 = .ok (.invokevirtual 36, 3) := by decide +kernel
theorem dL_circles_30 : decode cL_circles 30 = .ok (.istore 7, 2) := by decide +kernel
theorem dL_circles_32 : decode cL_circles 32 = .ok (.aload_n 0, 1) := by decide +kernel
theorem dL_circles_33 : decode cL_circles 33 = .ok (.iload_n 1, 1) := by decide +kernel
theorem dL_circles_34 : decode cL_circles 34 = .ok (.bipush 10, 2) := by decide +kernel
theorem dL_circles_36 : decode cL_circles 36 = .ok (.idiv, 1) := by decide +kernel
theorem dL_circles_37 : decode cL_circles 37 = .ok (.iload_n 1, 1) := by decide +kernel
theorem dL_circles_38 : decode cL_circles 38 = .ok (.bipush 10, 2) := by decide +kernel
theorem dL_circles_40 : decode cL_circles 40 = .ok (.irem, 1) := by decide +kernel
theorem dL_circles_41 : decode cL_circles 41 = .ok (.iload_n 2, 1) := by decide +kernel
theorem dL_circles_42 : decode cL_circles 42 = .ok (.invokevirtual 56, 3) := by decide +kernel
theorem dL_circles_45 : decode cL_circles 45 = .ok (.istore 8, 2) := by decide +kernel
theorem dL_circles_47 : decode cL_circles 47 = .ok (.iconst 0, 1) := by decide +kernel
theorem dL_circles_48 : decode cL_circles 48 = .ok (.istore 9, 2) := by decide +kernel
theorem dL_circles_50 : decode cL_circles 50 = .ok (.iload 9, 2) := by decide +kernel
theorem dL_circles_52 : decode cL_circles 52 = .ok (.bipush 50, 2) := by decide +kernel
theorem dL_circles_54 : decode cL_circles 54 = .ok (.if_icmp .ge 87, 3) := by decide +kernel
theorem dL_circles_57 : decode cL_circles 57 = .ok (.aload_n 3, 1) := by decide +kernel
theorem dL_circles_58 : decode cL_circles 58 = .ok (.iload 9, 2) := by decide +kernel
theorem dL_circles_60 : decode cL_circles 60 = .ok (.aload_n 0, 1) := by decide +kernel
theorem dL_circles_61 : decode cL_circles 61 = .ok (.iload 9, 2) := by decide +kernel
theorem dL_circles_63 : decode cL_circles 63 = .ok (.invokestatic 20, 3) := by decide +kernel
theorem dL_circles_66 : decode cL_circles 66 = .ok (.aload_n 0, 1) := by decide +kernel
theorem dL_circles_67 : decode cL_circles 67 = .ok (.iload 9, 2) := by decide +kernel
theorem dL_circles_69 : decode cL_circles 69 = .ok (.bipush 10, 2) := by decide +kernel
theorem dL_circles_71 : decode cL_circles 71 = .ok (.idiv, 1) := by decide +kernel
theorem dL_circles_72 : decode cL_circles 72 = .ok (.iload 9, 2) := by decide +kernel
theorem dL_circles_74 : decode cL_circles 74 = .ok (.bipush 10, 2) := by decide +kernel
theorem dL_circles_76 : decode cL_circles 76 = .ok (.irem, 1) := by decide +kernel
theorem dL_circles_77 : decode cL_circles 77 = .ok (.iconst 4, 1) := by decide +kernel
theorem dL_circles_78 : decode cL_circles 78 = .ok (.invokevirtual 10, 3) := by decide +kernel
theorem dL_circles_81 : decode cL_circles 81 = .ok (.ifCond .le 9, 3) := by decide +kernel
theorem dL_circles_84 : decode cL_circles 84 = .ok (.sipush 1000, 3) := by decide +kernel
theorem dL_circles_87 : decode cL_circles 87 = .ok (.goto 4, 3) := by decide +kernel
theorem dL_circles_90 : decode cL_circles 90 = .ok (.iconst 0, 1) := by decide +kernel
theorem dL_circles_91 : decode cL_circles 91 = .ok (.iadd, 1) := by decide +kernel
theorem dL_circles_92 : decode cL_circles 92 = .ok (.iastore, 1) := by decide +kernel
theorem dL_circles_93 : decode cL_circles 93 = .ok (.aload 4, 2) := by decide +kernel
theorem dL_circles_95 : decode cL_circles 95 = .ok (.iload 9, 2) := by decide +kernel
theorem dL_circles_97 : decode cL_circles 97 = .ok (.aload_n 0, 1) := by decide +kernel
theorem dL_circles_98 : decode cL_circles 98 = .ok (.bipush 50, 2) := by decide +kernel
theorem dL_circles_100 : decode cL_circles 100 = .ok (.iload 9, 2) := by decide +kernel
theorem dL_circles_102 : decode cL_circles 102 = .ok (.iadd, 1) := by decide +kernel
theorem dL_circles_103 : decode cL_circles 103 = .ok (.invokestatic 20, 3) := by decide +kernel
theorem dL_circles_106 : decode cL_circles 106 = .ok (.aload_n 0, 1) := by decide +kernel
theorem dL_circles_107 : decode cL_circles 107 = .ok (.iconst 5, 1) := by decide +kernel
theorem dL_circles_108 : decode cL_circles 108 = .ok (.iload 9, 2) := by decide +kernel
theorem dL_circles_110 : decode cL_circles 110 = .ok (.bipush 10, 2) := by decide +kernel
theorem dL_circles_112 : decode cL_circles 112 = .ok (.idiv, 1) := by decide +kernel
theorem dL_circles_113 : decode cL_circles 113 = .ok (.iadd, 1) := by decide +kernel
theorem dL_circles_114 : decode cL_circles 114 = .ok (.iload 9, 2) := by decide +kernel
theorem dL_circles_116 : decode cL_circles 116 = .ok (.bipush 10, 2) := by decide +kernel
theorem dL_circles_118 : decode cL_circles 118 = .ok (.irem, 1) := by decide +kernel
theorem dL_circles_119 : decode cL_circles 119 = .ok (.iconst 4, 1) := by decide +kernel
theorem dL_circles_120 : decode cL_circles 120 = .ok (.invokevirtual 10, 3) := by decide +kernel
theorem dL_circles_123 : decode cL_circles 123 = .ok (.ifCond .le 9, 3) := by decide +kernel
theorem dL_circles_126 : decode cL_circles 126 = .ok (.sipush 1000, 3) := by decide +kernel
theorem dL_circles_129 : decode cL_circles 129 = .ok (.goto 4, 3) := by decide +kernel
theorem dL_circles_132 : decode cL_circles 132 = .ok (.iconst 0, 1) := by decide +kernel
theorem dL_circles_133 : decode cL_circles 133 = .ok (.iadd, 1) := by decide +kernel
theorem dL_circles_134 : decode cL_circles 134 = .ok (.iastore, 1) := by decide +kernel
theorem dL_circles_135 : decode cL_circles 135 = .ok (.iinc 9 1, 3) := by decide +kernel
theorem dL_circles_138 : decode cL_circles 138 = .ok (.goto (-88), 3) := by decide +kernel
theorem dL_circles_141 : decode cL_circles 141 = .ok (.aload_n 0, 1) := by decide +kernel
theorem dL_circles_142 : decode cL_circles 142 = .ok (.iload_n 1, 1) := by decide +kernel
theorem dL_circles_143 : decode cL_circles 143 = .ok (.bipush 10, 2) := by decide +kernel
theorem dL_circles_145 : decode cL_circles 145 = .ok (.idiv, 1) := by decide +kernel
theorem dL_circles_146 : decode cL_circles 146 = .ok (.iload_n 1, 1) := by decide +kernel
theorem dL_circles_147 : decode cL_circles 147 = .ok (.bipush 10, 2) := by decide +kernel
theorem dL_circles_149 : decode cL_circles 149 = .ok (.irem, 1) := by decide +kernel
theorem dL_circles_150 : decode cL_circles 150 = .ok (.iload_n 2, 1) := by decide +kernel
theorem dL_circles_151 : decode cL_circles 151 = .ok (.invokevirtual 59, 3) := by decide +kernel
theorem dL_circles_154 : decode cL_circles 154 = .ok (.istore 9, 2) := by decide +kernel
theorem dL_circles_156 : decode cL_circles 156 = .ok (.iload 9, 2) := by decide +kernel
theorem dL_circles_158 : decode cL_circles 158 = .ok (.iload 8, 2) := by decide +kernel
theorem dL_circles_160 : decode cL_circles 160 = .ok (.if_icmp .ne 41, 3) := by decide +kernel
theorem dL_circles_163 : decode cL_circles 163 = .ok (.iload 9, 2) := by decide +kernel
theorem dL_circles_165 : decode cL_circles 165 = .ok (.iconst (-1), 1) := by decide +kernel
theorem dL_circles_166 : decode cL_circles 166 = .ok (.if_icmp .ne 7, 3) := by decide +kernel
theorem dL_circles_169 : decode cL_circles 169 = .ok (.iconst 1, 1) := by decide +kernel
theorem dL_circles_170 : decode cL_circles 170 = .ok (.goto 4, 3) := by decide +kernel
theorem dL_circles_173 : decode cL_circles 173 = .ok (.iconst 0, 1) := by decide +kernel
theorem dL_circles_174 : decode cL_circles 174 = .ok (.iload 6, 2) := by decide +kernel
theorem dL_circles_176 : decode cL_circles 176 = .ok (.bipush 40, 2) := by decide +kernel
theorem dL_circles_178 : decode cL_circles 178 = .ok (.if_icmp .eq 15, 3) := by decide +kernel
theorem dL_circles_181 : decode cL_circles 181 = .ok (.iload 5, 2) := by decide +kernel
theorem dL_circles_183 : decode cL_circles 183 = .ok (.bipush 100, 2) := by decide +kernel
theorem dL_circles_185 : decode cL_circles 185 = .ok (.bipush 12, 2) := by decide +kernel
theorem dL_circles_187 : decode cL_circles 187 = .ok (.iload_n 2, 1) := by decide +kernel
theorem dL_circles_188 : decode cL_circles 188 = .ok (.imul, 1) := by decide +kernel
theorem dL_circles_189 : decode cL_circles 189 = .ok (.iadd, 1) := by decide +kernel
theorem dL_circles_190 : decode cL_circles 190 = .ok (.if_icmp .ne 7, 3) := by decide +kernel
theorem dL_circles_193 : decode cL_circles 193 = .ok (.iconst 1, 1) := by decide +kernel
theorem dL_circles_194 : decode cL_circles 194 = .ok (.goto 4, 3) := by decide +kernel
theorem dL_circles_197 : decode cL_circles 197 = .ok (.iconst 0, 1) := by decide +kernel
theorem dL_circles_198 : decode cL_circles 198 = .ok (.if_icmp .eq 5, 3) := by decide +kernel
theorem dL_circles_201 : decode cL_circles 201 = .ok (.iconst 0, 1) := by decide +kernel
theorem dL_circles_202 : decode cL_circles 202 = .ok (.ireturn, 1) := by decide +kernel
theorem dL_circles_203 : decode cL_circles 203 = .ok (.iload 9, 2) := by decide +kernel
theorem dL_circles_205 : decode cL_circles 205 = .ok (.iconst (-1), 1) := by decide +kernel
theorem dL_circles_206 : decode cL_circles 206 = .ok (.if_icmp .ne 41, 3) := by decide +kernel
theorem dL_circles_209 : decode cL_circles 209 = .ok (.aload_n 0, 1) := by decide +kernel
theorem dL_circles_210 : decode cL_circles 210 = .ok (.iconst 0, 1) := by decide +kernel
theorem dL_circles_211 : decode cL_circles 211 = .ok (.invokevirtual 36, 3) := by decide +kernel
theorem dL_circles_214 : decode cL_circles 214 = .ok (.iload 6, 2) := by decide +kernel
theorem dL_circles_216 : decode cL_circles 216 = .ok (.if_icmp .ne 29, 3) := by decide +kernel
theorem dL_circles_219 : decode cL_circles 219 = .ok (.aload_n 0, 1) := by decide +kernel
theorem dL_circles_220 : decode cL_circles 220 = .ok (.iconst 4, 1) := by decide +kernel
theorem dL_circles_221 : decode cL_circles 221 = .ok (.invokevirtual 36, 3) := by decide +kernel
theorem dL_circles_224 : decode cL_circles 224 = .ok (.iload 7, 2) := by decide +kernel
theorem dL_circles_226 : decode cL_circles 226 = .ok (.iconst 1, 1) := by decide +kernel
theorem dL_circles_227 : decode cL_circles 227 = .ok (.iadd, 1) := by decide +kernel
theorem dL_circles_228 : decode cL_circles 228 = .ok (.if_icmp .ne 17, 3) := by decide +kernel
theorem dL_circles_231 : decode cL_circles 231 = .ok (.aload_n 0, 1) := by decide +kernel
theorem dL_circles_232 : decode cL_circles 232 = .ok (.iload_n 1, 1) := by decide +kernel
theorem dL_circles_233 : decode cL_circles 233 = .ok (.invokestatic 20, 3) := by decide +kernel
theorem dL_circles_236 : decode cL_circles 236 = .ok (.iload 5, 2) := by decide +kernel
theorem dL_circles_238 : decode cL_circles 238 = .ok (.if_icmp .ne 7, 3) := by decide +kernel
theorem dL_circles_241 : decode cL_circles 241 = .ok (.iconst 1, 1) := by decide +kernel
theorem dL_circles_242 : decode cL_circles 242 = .ok (.goto 4, 3) := by decide +kernel
theorem dL_circles_245 : decode cL_circles 245 = .ok (.iconst 0, 1) := by decide +kernel
theorem dL_circles_246 : decode cL_circles 246 = .ok (.ireturn, 1) := by decide +kernel
theorem dL_circles_247 : decode cL_circles 247 = .ok (.iconst 0, 1) := by decide +kernel
theorem dL_circles_248 : decode cL_circles 248 = .ok (.istore 10, 2) := by decide +kernel
theorem dL_circles_250 : decode cL_circles 250 = .ok (.iload 10, 2) := by decide +kernel
theorem dL_circles_252 : decode cL_circles 252 = .ok (.bipush 100, 2) := by decide +kernel
theorem dL_circles_254 : decode cL_circles 254 = .ok (.if_icmp .ge 101, 3) := by decide +kernel
theorem dL_circles_257 : decode cL_circles 257 = .ok (.iload 10, 2) := by decide +kernel
theorem dL_circles_259 : decode cL_circles 259 = .ok (.bipush 50, 2) := by decide +kernel
theorem dL_circles_261 : decode cL_circles 261 = .ok (.if_icmp .ge 10, 3) := by decide +kernel
theorem dL_circles_264 : decode cL_circles 264 = .ok (.aload_n 3, 1) := by decide +kernel
theorem dL_circles_265 : decode cL_circles 265 = .ok (.iload 10, 2) := by decide +kernel
theorem dL_circles_267 : decode cL_circles 267 = .ok (.iaload, 1) := by decide +kernel
theorem dL_circles_268 : decode cL_circles 268 = .ok (.goto 11, 3) := by decide +kernel
theorem dL_circles_271 : decode cL_circles 271 = .ok (.aload 4, 2) := by decide +kernel
theorem dL_circles_273 : decode cL_circles 273 = .ok (.iload 10, 2) := by decide +kernel
theorem dL_circles_275 : decode cL_circles 275 = .ok (.bipush 50, 2) := by decide +kernel
theorem dL_circles_277 : decode cL_circles 277 = .ok (.isub, 1) := by decide +kernel
theorem dL_circles_278 : decode cL_circles 278 = .ok (.iaload, 1) := by decide +kernel
theorem dL_circles_279 : decode cL_circles 279 = .ok (.istore 11, 2) := by decide +kernel
theorem dL_circles_281 : decode cL_circles 281 = .ok (.aload_n 0, 1) := by decide +kernel
theorem dL_circles_282 : decode cL_circles 282 = .ok (.iload 10, 2) := by decide +kernel
theorem dL_circles_284 : decode cL_circles 284 = .ok (.invokestatic 20, 3) := by decide +kernel
theorem dL_circles_287 : decode cL_circles 287 = .ok (.istore 12, 2) := by decide +kernel
theorem dL_circles_289 : decode cL_circles 289 = .ok (.iload 10, 2) := by decide +kernel
theorem dL_circles_291 : decode cL_circles 291 = .ok (.iload_n 1, 1) := by decide +kernel
theorem dL_circles_292 : decode cL_circles 292 = .ok (.if_icmp .eq 57, 3) := by decide +kernel
theorem dL_circles_295 : decode cL_circles 295 = .ok (.iload 11, 2) := by decide +kernel
theorem dL_circles_297 : decode cL_circles 297 = .ok (.sipush 999, 3) := by decide +kernel
theorem dL_circles_300 : decode cL_circles 300 = .ok (.if_icmp .le 17, 3) := by decide +kernel
theorem dL_circles_303 : decode cL_circles 303 = .ok (.iload 12, 2) := by decide +kernel
theorem dL_circles_305 : decode cL_circles 305 = .ok (.iload 11, 2) := by decide +kernel
theorem dL_circles_307 : decode cL_circles 307 = .ok (.sipush 1000, 3) := by decide +kernel
theorem dL_circles_310 : decode cL_circles 310 = .ok (.isub, 1) := by decide +kernel
theorem dL_circles_311 : decode cL_circles 311 = .ok (.if_icmp .eq 38, 3) := by decide +kernel
theorem dL_circles_314 : decode cL_circles 314 = .ok (.goto 33, 3) := by decide +kernel
theorem dL_circles_317 : decode cL_circles 317 = .ok (.iload 12, 2) := by decide +kernel
theorem dL_circles_319 : decode cL_circles 319 = .ok (.iload 11, 2) := by decide +kernel
theorem dL_circles_321 : decode cL_circles 321 = .ok (.if_icmp .eq 28, 3) := by decide +kernel
theorem dL_circles_324 : decode cL_circles 324 = .ok (.iload 12, 2) := by decide +kernel
theorem dL_circles_326 : decode cL_circles 326 = .ok (.iload 11, 2) := by decide +kernel
theorem dL_circles_328 : decode cL_circles 328 = .ok (.iload_n 2, 1) := by decide +kernel
theorem dL_circles_329 : decode cL_circles 329 = .ok (.iadd, 1) := by decide +kernel
theorem dL_circles_330 : decode cL_circles 330 = .ok (.if_icmp .ne 17, 3) := by decide +kernel
theorem dL_circles_333 : decode cL_circles 333 = .ok (.aload_n 0, 1) := by decide +kernel
theorem dL_circles_334 : decode cL_circles 334 = .ok (.iload 10, 2) := by decide +kernel
theorem dL_circles_336 : decode cL_circles 336 = .ok (.invokestatic 26, 3) := by decide +kernel
theorem dL_circles_339 : decode cL_circles 339 = .ok (.aload_n 0, 1) := by decide +kernel
theorem dL_circles_340 : decode cL_circles 340 = .ok (.iload_n 1, 1) := by decide +kernel
theorem dL_circles_341 : decode cL_circles 341 = .ok (.invokestatic 26, 3) := by decide +kernel
theorem dL_circles_344 : decode cL_circles 344 = .ok (.if_icmp .eq 5, 3) := by decide +kernel
theorem dL_circles_347 : decode cL_circles 347 = .ok (.iconst 0, 1) := by decide +kernel
theorem dL_circles_348 : decode cL_circles 348 = .ok (.ireturn, 1) := by decide +kernel
theorem dL_circles_349 : decode cL_circles 349 = .ok (.iinc 10 1, 3) := by decide +kernel
theorem dL_circles_352 : decode cL_circles 352 = .ok (.goto (-102), 3) := by decide +kernel
theorem dL_circles_355 : decode cL_circles 355 = .ok (.aload_n 0, 1) := by decide +kernel
theorem dL_circles_356 : decode cL_circles 356 = .ok (.iconst 0, 1) := by decide +kernel
theorem dL_circles_357 : decode cL_circles 357 = .ok (.invokevirtual 36, 3) := by decide +kernel
theorem dL_circles_360 : decode cL_circles 360 = .ok (.iload 6, 2) := by decide +kernel
theorem dL_circles_362 : decode cL_circles 362 = .ok (.iconst 1, 1) := by decide +kernel
theorem dL_circles_363 : decode cL_circles 363 = .ok (.iadd, 1) := by decide +kernel
theorem dL_circles_364 : decode cL_circles 364 = .ok (.if_icmp .ne 92, 3) := by decide +kernel
theorem dL_circles_367 : decode cL_circles 367 = .ok (.iload 9, 2) := by decide +kernel
theorem dL_circles_369 : decode cL_circles 369 = .ok (.aload_n 0, 1) := by decide +kernel
theorem dL_circles_370 : decode cL_circles 370 = .ok (.iload_n 1, 1) := by decide +kernel
theorem dL_circles_371 : decode cL_circles 371 = .ok (.invokestatic 20, 3) := by decide +kernel
theorem dL_circles_374 : decode cL_circles 374 = .ok (.if_icmp .ne 82, 3) := by decide +kernel
theorem dL_circles_377 : decode cL_circles 377 = .ok (.iload_n 2, 1) := by decide +kernel
theorem dL_circles_378 : decode cL_circles 378 = .ok (.iconst 1, 1) := by decide +kernel
theorem dL_circles_379 : decode cL_circles 379 = .ok (.if_icmp .ne 13, 3) := by decide +kernel
theorem dL_circles_382 : decode cL_circles 382 = .ok (.iload 9, 2) := by decide +kernel
theorem dL_circles_384 : decode cL_circles 384 = .ok (.iload 5, 2) := by decide +kernel
theorem dL_circles_386 : decode cL_circles 386 = .ok (.if_icmp .le 70, 3) := by decide +kernel
theorem dL_circles_389 : decode cL_circles 389 = .ok (.goto 10, 3) := by decide +kernel
theorem dL_circles_392 : decode cL_circles 392 = .ok (.iload 9, 2) := by decide +kernel
theorem dL_circles_394 : decode cL_circles 394 = .ok (.iload 5, 2) := by decide +kernel
theorem dL_circles_396 : decode cL_circles 396 = .ok (.if_icmp .ge 60, 3) := by decide +kernel
theorem dL_circles_399 : decode cL_circles 399 = .ok (.aload_n 0, 1) := by decide +kernel
theorem dL_circles_400 : decode cL_circles 400 = .ok (.iload 6, 2) := by decide +kernel
theorem dL_circles_402 : decode cL_circles 402 = .ok (.iconst 0, 1) := by decide +kernel
theorem dL_circles_403 : decode cL_circles 403 = .ok (.invokevirtual 53, 3) := by decide +kernel
theorem dL_circles_406 : decode cL_circles 406 = .ok (.iload_n 1, 1) := by decide +kernel
theorem dL_circles_407 : decode cL_circles 407 = .ok (.bipush 10, 2) := by decide +kernel
theorem dL_circles_409 : decode cL_circles 409 = .ok (.idiv, 1) := by decide +kernel
theorem dL_circles_410 : decode cL_circles 410 = .ok (.if_icmp .ne 46, 3) := by decide +kernel
theorem dL_circles_413 : decode cL_circles 413 = .ok (.aload_n 0, 1) := by decide +kernel
theorem dL_circles_414 : decode cL_circles 414 = .ok (.iload 6, 2) := by decide +kernel
theorem dL_circles_416 : decode cL_circles 416 = .ok (.iconst 1, 1) := by decide +kernel
theorem dL_circles_417 : decode cL_circles 417 = .ok (.invokevirtual 53, 3) := by decide +kernel
theorem dL_circles_420 : decode cL_circles 420 = .ok (.iload_n 1, 1) := by decide +kernel
theorem dL_circles_421 : decode cL_circles 421 = .ok (.bipush 10, 2) := by decide +kernel
theorem dL_circles_423 : decode cL_circles 423 = .ok (.irem, 1) := by decide +kernel
theorem dL_circles_424 : decode cL_circles 424 = .ok (.if_icmp .ne 32, 3) := by decide +kernel
theorem dL_circles_427 : decode cL_circles 427 = .ok (.aload_n 0, 1) := by decide +kernel
theorem dL_circles_428 : decode cL_circles 428 = .ok (.iload 6, 2) := by decide +kernel
theorem dL_circles_430 : decode cL_circles 430 = .ok (.iconst 2, 1) := by decide +kernel
theorem dL_circles_431 : decode cL_circles 431 = .ok (.invokevirtual 53, 3) := by decide +kernel
theorem dL_circles_434 : decode cL_circles 434 = .ok (.iload_n 2, 1) := by decide +kernel
theorem dL_circles_435 : decode cL_circles 435 = .ok (.iconst 1, 1) := by decide +kernel
theorem dL_circles_436 : decode cL_circles 436 = .ok (.iadd, 1) := by decide +kernel
theorem dL_circles_437 : decode cL_circles 437 = .ok (.iconst 2, 1) := by decide +kernel
theorem dL_circles_438 : decode cL_circles 438 = .ok (.idiv, 1) := by decide +kernel
theorem dL_circles_439 : decode cL_circles 439 = .ok (.if_icmp .ne 17, 3) := by decide +kernel
theorem dL_circles_442 : decode cL_circles 442 = .ok (.aload_n 0, 1) := by decide +kernel
theorem dL_circles_443 : decode cL_circles 443 = .ok (.iload 6, 2) := by decide +kernel
theorem dL_circles_445 : decode cL_circles 445 = .ok (.iconst 3, 1) := by decide +kernel
theorem dL_circles_446 : decode cL_circles 446 = .ok (.invokevirtual 53, 3) := by decide +kernel
theorem dL_circles_449 : decode cL_circles 449 = .ok (.ifCond .ne 7, 3) := by decide +kernel
theorem dL_circles_452 : decode cL_circles 452 = .ok (.iconst 1, 1) := by decide +kernel
theorem dL_circles_453 : decode cL_circles 453 = .ok (.goto 4, 3) := by decide +kernel
theorem dL_circles_456 : decode cL_circles 456 = .ok (.iconst 0, 1) := by decide +kernel
theorem dL_circles_457 : decode cL_circles 457 = .ok (.ireturn, 1) := by decide +kernel
theorem dL_forgets_0 : decode cL_forgets 0 = .ok (.bipush 50, 2) := by decide +kernel
theorem dL_forgets_2 : decode cL_forgets 2 = .ok (.newarray .int, 2) := by decide +kernel
theorem dL_forgets_4 : decode cL_forgets 4 = .ok (.astore_n 2, 1) := by decide +kernel
theorem dL_forgets_5 : decode cL_forgets 5 = .ok (.bipush 50, 2) := by decide +kernel
theorem dL_forgets_7 : decode cL_forgets 7 = .ok (.newarray .int, 2) := by decide +kernel
theorem dL_forgets_9 : decode cL_forgets 9 = .ok (.astore_n 3, 1) := by decide +kernel
theorem dL_forgets_10 : decode cL_forgets 10 = .ok (.iconst 0, 1) := by decide +kernel
theorem dL_forgets_11 : decode cL_forgets 11 = .ok (.istore 4, 2) := by decide +kernel
theorem dL_forgets_13 : decode cL_forgets 13 = .ok (.aload_n 0, 1) := by decide +kernel
theorem dL_forgets_14 : decode cL_forgets 14 = .ok (.iconst 0, 1) := by decide +kernel
theorem dL_forgets_15 : decode cL_forgets 15 = .ok (.invokevirtual 36, 3) := by decide +kernel
theorem dL_forgets_18 : decode cL_forgets 18 = .ok (.istore 5, 2) := by decide +kernel
theorem dL_forgets_20 : decode cL_forgets 20 = .ok (.aload_n 0, 1) := by decide +kernel
theorem dL_forgets_21 : decode cL_forgets 21 = .ok (.iconst 5, 1) := by decide +kernel
theorem dL_forgets_22 : decode cL_forgets 22 = .ok (.invokevirtual 36, 3) := by decide +kernel
theorem dL_forgets_25 : decode cL_forgets 25 = .ok (.istore 6, 2) := by decide +kernel
theorem dL_forgets_27 : decode cL_forgets 27 = .ok (.aload_n 0, 1) := by decide +kernel
theorem dL_forgets_28 : decode cL_forgets 28 = .ok (.iload_n 1, 1) := by decide +kernel
theorem dL_forgets_29 : decode cL_forgets 29 = .ok (.invokevirtual 62, 3) := by decide +kernel
theorem dL_forgets_32 : decode cL_forgets 32 = .ok (.istore 7, 2) := by decide +kernel
theorem dL_forgets_34 : decode cL_forgets 34 = .ok (.aload_n 0, 1) := by decide +kernel
theorem dL_forgets_35 : decode cL_forgets 35 = .ok (.invokevirtual 45, 3) := by decide +kernel
theorem dL_forgets_38 : decode cL_forgets 38 = .ok (.istore 8, 2) := by decide +kernel
theorem dL_forgets_40 : decode cL_forgets 40 = .ok (.iconst 0, 1) := by decide +kernel
theorem dL_forgets_41 : decode cL_forgets 41 = .ok (.istore 9, 2) := by decide +kernel
theorem dL_forgets_43 : decode cL_forgets 43 = .ok (.iload 9, 2) := by decide +kernel
theorem dL_forgets_45 : decode cL_forgets 45 = .ok (.bipush 50, 2) := by decide +kernel
theorem dL_forgets_47 : decode cL_forgets 47 = .ok (.if_icmp .ge 32, 3) := by decide +kernel
theorem dL_forgets_50 : decode cL_forgets 50 = .ok (.aload_n 2, 1) := by decide +kernel
theorem dL_forgets_51 : decode cL_forgets 51 = .ok (.iload 9, 2) := by decide +kernel
theorem dL_forgets_53 : decode cL_forgets 53 = .ok (.aload_n 0, 1) := by decide +kernel
theorem dL_forgets_54 : decode cL_forgets 54 = .ok (.iload 9, 2) := by decide +kernel
theorem dL_forgets_56 : decode cL_forgets 56 = .ok (.invokestatic 20, 3) := by decide +kernel
theorem dL_forgets_59 : decode cL_forgets 59 = .ok (.iastore, 1) := by decide +kernel
theorem dL_forgets_60 : decode cL_forgets 60 = .ok (.aload_n 3, 1) := by decide +kernel
theorem dL_forgets_61 : decode cL_forgets 61 = .ok (.iload 9, 2) := by decide +kernel
theorem dL_forgets_63 : decode cL_forgets 63 = .ok (.aload_n 0, 1) := by decide +kernel
theorem dL_forgets_64 : decode cL_forgets 64 = .ok (.bipush 50, 2) := by decide +kernel
theorem dL_forgets_66 : decode cL_forgets 66 = .ok (.iload 9, 2) := by decide +kernel
theorem dL_forgets_68 : decode cL_forgets 68 = .ok (.iadd, 1) := by decide +kernel
theorem dL_forgets_69 : decode cL_forgets 69 = .ok (.invokestatic 20, 3) := by decide +kernel
theorem dL_forgets_72 : decode cL_forgets 72 = .ok (.iastore, 1) := by decide +kernel
theorem dL_forgets_73 : decode cL_forgets 73 = .ok (.iinc 9 1, 3) := by decide +kernel
theorem dL_forgets_76 : decode cL_forgets 76 = .ok (.goto (-33), 3) := by decide +kernel
theorem dL_forgets_79 : decode cL_forgets 79 = .ok (.iload 8, 2) := by decide +kernel
theorem dL_forgets_81 : decode cL_forgets 81 = .ok (.ifCond .lt 76, 3) := by decide +kernel
theorem dL_forgets_84 : decode cL_forgets 84 = .ok (.iload 8, 2) := by decide +kernel
theorem dL_forgets_86 : decode cL_forgets 86 = .ok (.iload 5, 2) := by decide +kernel
theorem dL_forgets_88 : decode cL_forgets 88 = .ok (.if_icmp .ge 69, 3) := by decide +kernel
theorem dL_forgets_91 : decode cL_forgets 91 = .ok (.aload_n 0, 1) := by decide +kernel
theorem dL_forgets_92 : decode cL_forgets 92 = .ok (.iload 8, 2) := by decide +kernel
theorem dL_forgets_94 : decode cL_forgets 94 = .ok (.invokevirtual 62, 3) := by decide +kernel
theorem dL_forgets_97 : decode cL_forgets 97 = .ok (.iload 7, 2) := by decide +kernel
theorem dL_forgets_99 : decode cL_forgets 99 = .ok (.if_icmp .lt 58, 3) := by decide +kernel
theorem dL_forgets_102 : decode cL_forgets 102 = .ok (.aload_n 0, 1) := by decide +kernel
theorem dL_forgets_103 : decode cL_forgets 103 = .ok (.iload 8, 2) := by decide +kernel
theorem dL_forgets_105 : decode cL_forgets 105 = .ok (.invokevirtual 62, 3) := by decide +kernel
theorem dL_forgets_108 : decode cL_forgets 108 = .ok (.iload 7, 2) := by decide +kernel
theorem dL_forgets_110 : decode cL_forgets 110 = .ok (.if_icmp .gt 9, 3) := by decide +kernel
theorem dL_forgets_113 : decode cL_forgets 113 = .ok (.iload 8, 2) := by decide +kernel
theorem dL_forgets_115 : decode cL_forgets 115 = .ok (.iload_n 1, 1) := by decide +kernel
theorem dL_forgets_116 : decode cL_forgets 116 = .ok (.if_icmp .gt 41, 3) := by decide +kernel
theorem dL_forgets_119 : decode cL_forgets 119 = .ok (.aload_n 0, 1) := by decide +kernel
theorem dL_forgets_120 : decode cL_forgets 120 = .ok (.iload_n 1, 1) := by decide +kernel
theorem dL_forgets_121 : decode cL_forgets 121 = .ok (.invokevirtual 65, 3) := by decide +kernel
theorem dL_forgets_124 : decode cL_forgets 124 = .ok (.iload 7, 2) := by decide +kernel
theorem dL_forgets_126 : decode cL_forgets 126 = .ok (.if_icmp .ne 31, 3) := by decide +kernel
theorem dL_forgets_129 : decode cL_forgets 129 = .ok (.aload_n 0, 1) := by decide +kernel
theorem dL_forgets_130 : decode cL_forgets 130 = .ok (.iconst 0, 1) := by decide +kernel
theorem dL_forgets_131 : decode cL_forgets 131 = .ok (.invokevirtual 36, 3) := by decide +kernel
theorem dL_forgets_134 : decode cL_forgets 134 = .ok (.iload 5, 2) := by decide +kernel
theorem dL_forgets_136 : decode cL_forgets 136 = .ok (.iconst 1, 1) := by decide +kernel
theorem dL_forgets_137 : decode cL_forgets 137 = .ok (.isub, 1) := by decide +kernel
theorem dL_forgets_138 : decode cL_forgets 138 = .ok (.if_icmp .ne 19, 3) := by decide +kernel
theorem dL_forgets_141 : decode cL_forgets 141 = .ok (.aload_n 0, 1) := by decide +kernel
theorem dL_forgets_142 : decode cL_forgets 142 = .ok (.iconst 5, 1) := by decide +kernel
theorem dL_forgets_143 : decode cL_forgets 143 = .ok (.invokevirtual 36, 3) := by decide +kernel
theorem dL_forgets_146 : decode cL_forgets 146 = .ok (.iload 6, 2) := by decide +kernel
theorem dL_forgets_148 : decode cL_forgets 148 = .ok (.iconst 1, 1) := by decide +kernel
theorem dL_forgets_149 : decode cL_forgets 149 = .ok (.iadd, 1) := by decide +kernel
theorem dL_forgets_150 : decode cL_forgets 150 = .ok (.if_icmp .ne 7, 3) := by decide +kernel
theorem dL_forgets_153 : decode cL_forgets 153 = .ok (.iconst 1, 1) := by decide +kernel
theorem dL_forgets_154 : decode cL_forgets 154 = .ok (.goto 4, 3) := by decide +kernel
theorem dL_forgets_157 : decode cL_forgets 157 = .ok (.iconst 0, 1) := by decide +kernel
theorem dL_forgets_158 : decode cL_forgets 158 = .ok (.istore 9, 2) := by decide +kernel
theorem dL_forgets_160 : decode cL_forgets 160 = .ok (.iconst 0, 1) := by decide +kernel
theorem dL_forgets_161 : decode cL_forgets 161 = .ok (.istore 10, 2) := by decide +kernel
theorem dL_forgets_163 : decode cL_forgets 163 = .ok (.iload 10, 2) := by decide +kernel
theorem dL_forgets_165 : decode cL_forgets 165 = .ok (.bipush 50, 2) := by decide +kernel
theorem dL_forgets_167 : decode cL_forgets 167 = .ok (.if_icmp .ge 58, 3) := by decide +kernel
theorem dL_forgets_170 : decode cL_forgets 170 = .ok (.iload 4, 2) := by decide +kernel
theorem dL_forgets_172 : decode cL_forgets 172 = .ok (.aload_n 0, 1) := by decide +kernel
theorem dL_forgets_173 : decode cL_forgets 173 = .ok (.iload 10, 2) := by decide +kernel
theorem dL_forgets_175 : decode cL_forgets 175 = .ok (.invokestatic 20, 3) := by decide +kernel
theorem dL_forgets_178 : decode cL_forgets 178 = .ok (.aload_n 2, 1) := by decide +kernel
theorem dL_forgets_179 : decode cL_forgets 179 = .ok (.iload 10, 2) := by decide +kernel
theorem dL_forgets_181 : decode cL_forgets 181 = .ok (.iaload, 1) := by decide +kernel
theorem dL_forgets_182 : decode cL_forgets 182 = .ok (.if_icmp .eq 7, 3) := by decide +kernel
theorem dL_forgets_185 : decode cL_forgets 185 = .ok (.iconst 1, 1) := by decide +kernel
theorem dL_forgets_186 : decode cL_forgets 186 = .ok (.goto 4, 3) := by decide +kernel
theorem dL_forgets_189 : decode cL_forgets 189 = .ok (.iconst 0, 1) := by decide +kernel
theorem dL_forgets_190 : decode cL_forgets 190 = .ok (.iadd, 1) := by decide +kernel
theorem dL_forgets_191 : decode cL_forgets 191 = .ok (.istore 4, 2) := by decide +kernel
theorem dL_forgets_193 : decode cL_forgets 193 = .ok (.iload 4, 2) := by decide +kernel
theorem dL_forgets_195 : decode cL_forgets 195 = .ok (.aload_n 0, 1) := by decide +kernel
theorem dL_forgets_196 : decode cL_forgets 196 = .ok (.bipush 50, 2) := by decide +kernel
theorem dL_forgets_198 : decode cL_forgets 198 = .ok (.iload 10, 2) := by decide +kernel
theorem dL_forgets_200 : decode cL_forgets 200 = .ok (.iadd, 1) := by decide +kernel
theorem dL_forgets_201 : decode cL_forgets 201 = .ok (.invokestatic 20, 3) := by decide +kernel
theorem dL_forgets_204 : decode cL_forgets 204 = .ok (.aload_n 3, 1) := by decide +kernel
theorem dL_forgets_205 : decode cL_forgets 205 = .ok (.iload 10, 2) := by decide +kernel
theorem dL_forgets_207 : decode cL_forgets 207 = .ok (.iaload, 1) := by decide +kernel
theorem dL_forgets_208 : decode cL_forgets 208 = .ok (.if_icmp .eq 7, 3) := by decide +kernel
theorem dL_forgets_211 : decode cL_forgets 211 = .ok (.iconst 1, 1) := by decide +kernel
theorem dL_forgets_212 : decode cL_forgets 212 = .ok (.goto 4, 3) := by decide +kernel
theorem dL_forgets_215 : decode cL_forgets 215 = .ok (.iconst 0, 1) := by decide +kernel
theorem dL_forgets_216 : decode cL_forgets 216 = .ok (.iadd, 1) := by decide +kernel
theorem dL_forgets_217 : decode cL_forgets 217 = .ok (.istore 4, 2) := by decide +kernel
theorem dL_forgets_219 : decode cL_forgets 219 = .ok (.iinc 10 1, 3) := by decide +kernel
theorem dL_forgets_222 : decode cL_forgets 222 = .ok (.goto (-59), 3) := by decide +kernel
theorem dL_forgets_225 : decode cL_forgets 225 = .ok (.iload 9, 2) := by decide +kernel
theorem dL_forgets_227 : decode cL_forgets 227 = .ok (.ifCond .eq 14, 3) := by decide +kernel
theorem dL_forgets_230 : decode cL_forgets 230 = .ok (.iload 4, 2) := by decide +kernel
theorem dL_forgets_232 : decode cL_forgets 232 = .ok (.iload 7, 2) := by decide +kernel
theorem dL_forgets_234 : decode cL_forgets 234 = .ok (.if_icmp .ne 7, 3) := by decide +kernel
theorem dL_forgets_237 : decode cL_forgets 237 = .ok (.iconst 1, 1) := by decide +kernel
theorem dL_forgets_238 : decode cL_forgets 238 = .ok (.goto 4, 3) := by decide +kernel
theorem dL_forgets_241 : decode cL_forgets 241 = .ok (.iconst 0, 1) := by decide +kernel
theorem dL_forgets_242 : decode cL_forgets 242 = .ok (.ireturn, 1) := by decide +kernel
theorem dL_isWidth_0 : decode cL_isWidth 0 = .ok (.iconst 0, 1) := by decide +kernel
theorem dL_isWidth_1 : decode cL_isWidth 1 = .ok (.istore_n 3, 1) := by decide +kernel
theorem dL_isWidth_2 : decode cL_isWidth 2 = .ok (.iconst 0, 1) := by decide +kernel
theorem dL_isWidth_3 : decode cL_isWidth 3 = .ok (.istore 4, 2) := by decide +kernel
theorem dL_isWidth_5 : decode cL_isWidth 5 = .ok (.iconst 1, 1) := by decide +kernel
theorem dL_isWidth_6 : decode cL_isWidth 6 = .ok (.istore 5, 2) := by decide +kernel
theorem dL_isWidth_8 : decode cL_isWidth 8 = .ok (.iconst 0, 1) := by decide +kernel
theorem dL_isWidth_9 : decode cL_isWidth 9 = .ok (.istore 6, 2) := by decide +kernel
theorem dL_isWidth_11 : decode cL_isWidth 11 = .ok (.iconst (-1), 1) := by decide +kernel
theorem dL_isWidth_12 : decode cL_isWidth 12 = .ok (.istore 7, 2) := by decide +kernel
theorem dL_isWidth_14 : decode cL_isWidth 14 = .ok (.aload_n 0, 1) := by decide +kernel
theorem dL_isWidth_15 : decode cL_isWidth 15 = .ok (.invokevirtual 68, 3) := by decide +kernel
theorem dL_isWidth_18 : decode cL_isWidth 18 = .ok (.istore 8, 2) := by decide +kernel
theorem dL_isWidth_20 : decode cL_isWidth 20 = .ok (.iconst 0, 1) := by decide +kernel
theorem dL_isWidth_21 : decode cL_isWidth 21 = .ok (.istore 9, 2) := by decide +kernel
theorem dL_isWidth_23 : decode cL_isWidth 23 = .ok (.iload 9, 2) := by decide +kernel
theorem dL_isWidth_25 : decode cL_isWidth 25 = .ok (.bipush 30, 2) := by decide +kernel
theorem dL_isWidth_27 : decode cL_isWidth 27 = .ok (.if_icmp .ge 171, 3) := by decide +kernel
theorem dL_isWidth_30 : decode cL_isWidth 30 = .ok (.iload 9, 2) := by decide +kernel
theorem dL_isWidth_32 : decode cL_isWidth 32 = .ok (.ifCond .le 33, 3) := by decide +kernel
theorem dL_isWidth_35 : decode cL_isWidth 35 = .ok (.iload 7, 2) := by decide +kernel
theorem dL_isWidth_37 : decode cL_isWidth 37 = .ok (.ifCond .lt 28, 3) := by decide +kernel
theorem dL_isWidth_40 : decode cL_isWidth 40 = .ok (.iload 9, 2) := by decide +kernel
theorem dL_isWidth_42 : decode cL_isWidth 42 = .ok (.bipush 29, 2) := by decide +kernel
theorem dL_isWidth_44 : decode cL_isWidth 44 = .ok (.if_icmp .ge 21, 3) := by decide +kernel
theorem dL_isWidth_47 : decode cL_isWidth 47 = .ok (.iload_n 1, 1) := by decide +kernel
theorem dL_isWidth_48 : decode cL_isWidth 48 = .ok (.iload 9, 2) := by decide +kernel
theorem dL_isWidth_50 : decode cL_isWidth 50 = .ok (.bipush 24, 2) := by decide +kernel
theorem dL_isWidth_52 : decode cL_isWidth 52 = .ok (.irem, 1) := by decide +kernel
theorem dL_isWidth_53 : decode cL_isWidth 53 = .ok (.ishr, 1) := by decide +kernel
theorem dL_isWidth_54 : decode cL_isWidth 54 = .ok (.iconst 4, 1) := by decide +kernel
theorem dL_isWidth_55 : decode cL_isWidth 55 = .ok (.invokestatic 71, 3) := by decide +kernel
theorem dL_isWidth_58 : decode cL_isWidth 58 = .ok (.ifCond .ne 7, 3) := by decide +kernel
theorem dL_isWidth_61 : decode cL_isWidth 61 = .ok (.iconst 1, 1) := by decide +kernel
theorem dL_isWidth_62 : decode cL_isWidth 62 = .ok (.goto 4, 3) := by decide +kernel
theorem dL_isWidth_65 : decode cL_isWidth 65 = .ok (.iconst 0, 1) := by decide +kernel
theorem dL_isWidth_66 : decode cL_isWidth 66 = .ok (.istore 10, 2) := by decide +kernel
theorem dL_isWidth_68 : decode cL_isWidth 68 = .ok (.iload_n 2, 1) := by decide +kernel
theorem dL_isWidth_69 : decode cL_isWidth 69 = .ok (.iload 9, 2) := by decide +kernel
theorem dL_isWidth_71 : decode cL_isWidth 71 = .ok (.bipush 25, 2) := by decide +kernel
theorem dL_isWidth_73 : decode cL_isWidth 73 = .ok (.irem, 1) := by decide +kernel
theorem dL_isWidth_74 : decode cL_isWidth 74 = .ok (.ishr, 1) := by decide +kernel
theorem dL_isWidth_75 : decode cL_isWidth 75 = .ok (.bipush 10, 2) := by decide +kernel
theorem dL_isWidth_77 : decode cL_isWidth 77 = .ok (.invokestatic 71, 3) := by decide +kernel
theorem dL_isWidth_80 : decode cL_isWidth 80 = .ok (.istore 11, 2) := by decide +kernel
theorem dL_isWidth_82 : decode cL_isWidth 82 = .ok (.iload 10, 2) := by decide +kernel
theorem dL_isWidth_84 : decode cL_isWidth 84 = .ok (.ifCond .eq 31, 3) := by decide +kernel
theorem dL_isWidth_87 : decode cL_isWidth 87 = .ok (.aload_n 0, 1) := by decide +kernel
theorem dL_isWidth_88 : decode cL_isWidth 88 = .ok (.bipush 46, 2) := by decide +kernel
theorem dL_isWidth_90 : decode cL_isWidth 90 = .ok (.invokevirtual 74, 3) := by decide +kernel
theorem dL_isWidth_93 : decode cL_isWidth 93 = .ok (.istore 8, 2) := by decide +kernel
theorem dL_isWidth_95 : decode cL_isWidth 95 = .ok (.iload_n 3, 1) := by decide +kernel
theorem dL_isWidth_96 : decode cL_isWidth 96 = .ok (.aload_n 0, 1) := by decide +kernel
theorem dL_isWidth_97 : decode cL_isWidth 97 = .ok (.iconst 2, 1) := by decide +kernel
theorem dL_isWidth_98 : decode cL_isWidth 98 = .ok (.invokevirtual 32, 3) := by decide +kernel
theorem dL_isWidth_101 : decode cL_isWidth 101 = .ok (.iadd, 1) := by decide +kernel
theorem dL_isWidth_102 : decode cL_isWidth 102 = .ok (.istore_n 3, 1) := by decide +kernel
theorem dL_isWidth_103 : decode cL_isWidth 103 = .ok (.iinc 5 1, 3) := by decide +kernel
theorem dL_isWidth_106 : decode cL_isWidth 106 = .ok (.iconst 0, 1) := by decide +kernel
theorem dL_isWidth_107 : decode cL_isWidth 107 = .ok (.istore 6, 2) := by decide +kernel
theorem dL_isWidth_109 : decode cL_isWidth 109 = .ok (.iconst (-1), 1) := by decide +kernel
theorem dL_isWidth_110 : decode cL_isWidth 110 = .ok (.istore 7, 2) := by decide +kernel
theorem dL_isWidth_112 : decode cL_isWidth 112 = .ok (.goto 64, 3) := by decide +kernel
theorem dL_isWidth_115 : decode cL_isWidth 115 = .ok (.aload_n 0, 1) := by decide +kernel
theorem dL_isWidth_116 : decode cL_isWidth 116 = .ok (.bipush 97, 2) := by decide +kernel
theorem dL_isWidth_118 : decode cL_isWidth 118 = .ok (.iload 11, 2) := by decide +kernel
theorem dL_isWidth_120 : decode cL_isWidth 120 = .ok (.iadd, 1) := by decide +kernel
theorem dL_isWidth_121 : decode cL_isWidth 121 = .ok (.invokevirtual 74, 3) := by decide +kernel
theorem dL_isWidth_124 : decode cL_isWidth 124 = .ok (.istore 8, 2) := by decide +kernel
theorem dL_isWidth_126 : decode cL_isWidth 126 = .ok (.aload_n 0, 1) := by decide +kernel
theorem dL_isWidth_127 : decode cL_isWidth 127 = .ok (.iload 11, 2) := by decide +kernel
theorem dL_isWidth_129 : decode cL_isWidth 129 = .ok (.iconst 0, 1) := by decide +kernel
theorem dL_isWidth_130 : decode cL_isWidth 130 = .ok (.invokevirtual 16, 3) := by decide +kernel
theorem dL_isWidth_133 : decode cL_isWidth 133 = .ok (.iload 7, 2) := by decide +kernel
theorem dL_isWidth_135 : decode cL_isWidth 135 = .ok (.ifCond .ge 7, 3) := by decide +kernel
theorem dL_isWidth_138 : decode cL_isWidth 138 = .ok (.iconst 0, 1) := by decide +kernel
theorem dL_isWidth_139 : decode cL_isWidth 139 = .ok (.goto 18, 3) := by decide +kernel
theorem dL_isWidth_142 : decode cL_isWidth 142 = .ok (.aload_n 0, 1) := by decide +kernel
theorem dL_isWidth_143 : decode cL_isWidth 143 = .ok (.bipush 10, 2) := by decide +kernel
theorem dL_isWidth_145 : decode cL_isWidth 145 = .ok (.iload 7, 2) := by decide +kernel
theorem dL_isWidth_147 : decode cL_isWidth 147 = .ok (.imul, 1) := by decide +kernel
theorem dL_isWidth_148 : decode cL_isWidth 148 = .ok (.iload 11, 2) := by decide +kernel
theorem dL_isWidth_150 : decode cL_isWidth 150 = .ok (.iadd, 1) := by decide +kernel
theorem dL_isWidth_151 : decode cL_isWidth 151 = .ok (.invokestatic 20, 3) := by decide +kernel
theorem dL_isWidth_154 : decode cL_isWidth 154 = .ok (.bipush 100, 2) := by decide +kernel
theorem dL_isWidth_156 : decode cL_isWidth 156 = .ok (.isub, 1) := by decide +kernel
theorem dL_isWidth_157 : decode cL_isWidth 157 = .ok (.iadd, 1) := by decide +kernel
theorem dL_isWidth_158 : decode cL_isWidth 158 = .ok (.istore 12, 2) := by decide +kernel
theorem dL_isWidth_160 : decode cL_isWidth 160 = .ok (.iload_n 3, 1) := by decide +kernel
theorem dL_isWidth_161 : decode cL_isWidth 161 = .ok (.iload 12, 2) := by decide +kernel
theorem dL_isWidth_163 : decode cL_isWidth 163 = .ok (.iadd, 1) := by decide +kernel
theorem dL_isWidth_164 : decode cL_isWidth 164 = .ok (.istore_n 3, 1) := by decide +kernel
theorem dL_isWidth_165 : decode cL_isWidth 165 = .ok (.iload 6, 2) := by decide +kernel
theorem dL_isWidth_167 : decode cL_isWidth 167 = .ok (.iload 12, 2) := by decide +kernel
theorem dL_isWidth_169 : decode cL_isWidth 169 = .ok (.iadd, 1) := by decide +kernel
theorem dL_isWidth_170 : decode cL_isWidth 170 = .ok (.istore 6, 2) := by decide +kernel
theorem dL_isWidth_172 : decode cL_isWidth 172 = .ok (.iload 11, 2) := by decide +kernel
theorem dL_isWidth_174 : decode cL_isWidth 174 = .ok (.istore 7, 2) := by decide +kernel
theorem dL_isWidth_176 : decode cL_isWidth 176 = .ok (.iload 6, 2) := by decide +kernel
theorem dL_isWidth_178 : decode cL_isWidth 178 = .ok (.iload 4, 2) := by decide +kernel
theorem dL_isWidth_180 : decode cL_isWidth 180 = .ok (.if_icmp .le 8, 3) := by decide +kernel
theorem dL_isWidth_183 : decode cL_isWidth 183 = .ok (.iload 6, 2) := by decide +kernel
theorem dL_isWidth_185 : decode cL_isWidth 185 = .ok (.goto 5, 3) := by decide +kernel
theorem dL_isWidth_188 : decode cL_isWidth 188 = .ok (.iload 4, 2) := by decide +kernel
theorem dL_isWidth_190 : decode cL_isWidth 190 = .ok (.istore 4, 2) := by decide +kernel
theorem dL_isWidth_192 : decode cL_isWidth 192 = .ok (.iinc 9 1, 3) := by decide +kernel
theorem dL_isWidth_195 : decode cL_isWidth 195 = .ok (.goto (-172), 3) := by decide +kernel
theorem dL_isWidth_198 : decode cL_isWidth 198 = .ok (.aload_n 0, 1) := by decide +kernel
theorem dL_isWidth_199 : decode cL_isWidth 199 = .ok (.iconst 4, 1) := by decide +kernel
theorem dL_isWidth_200 : decode cL_isWidth 200 = .ok (.invokevirtual 77, 3) := by decide +kernel
theorem dL_isWidth_203 : decode cL_isWidth 203 = .ok (.istore 9, 2) := by decide +kernel
theorem dL_isWidth_205 : decode cL_isWidth 205 = .ok (.iload 8, 2) := by decide +kernel
theorem dL_isWidth_207 : decode cL_isWidth 207 = .ok (.bipush 30, 2) := by decide +kernel
theorem dL_isWidth_209 : decode cL_isWidth 209 = .ok (.if_icmp .ne 98, 3) := by decide +kernel
theorem dL_isWidth_212 : decode cL_isWidth 212 = .ok (.aload_n 0, 1) := by decide +kernel
theorem dL_isWidth_213 : decode cL_isWidth 213 = .ok (.invokevirtual 80, 3) := by decide +kernel
theorem dL_isWidth_216 : decode cL_isWidth 216 = .ok (.bipush 30, 2) := by decide +kernel
theorem dL_isWidth_218 : decode cL_isWidth 218 = .ok (.if_icmp .ne 89, 3) := by decide +kernel
theorem dL_isWidth_221 : decode cL_isWidth 221 = .ok (.aload_n 0, 1) := by decide +kernel
theorem dL_isWidth_222 : decode cL_isWidth 222 = .ok (.iconst 0, 1) := by decide +kernel
theorem dL_isWidth_223 : decode cL_isWidth 223 = .ok (.invokevirtual 77, 3) := by decide +kernel
theorem dL_isWidth_226 : decode cL_isWidth 226 = .ok (.iload_n 3, 1) := by decide +kernel
theorem dL_isWidth_227 : decode cL_isWidth 227 = .ok (.if_icmp .ne 80, 3) := by decide +kernel
theorem dL_isWidth_230 : decode cL_isWidth 230 = .ok (.aload_n 0, 1) := by decide +kernel
theorem dL_isWidth_231 : decode cL_isWidth 231 = .ok (.iconst 1, 1) := by decide +kernel
theorem dL_isWidth_232 : decode cL_isWidth 232 = .ok (.invokevirtual 77, 3) := by decide +kernel
theorem dL_isWidth_235 : decode cL_isWidth 235 = .ok (.iload_n 3, 1) := by decide +kernel
theorem dL_isWidth_236 : decode cL_isWidth 236 = .ok (.if_icmp .ne 71, 3) := by decide +kernel
theorem dL_isWidth_239 : decode cL_isWidth 239 = .ok (.aload_n 0, 1) := by decide +kernel
theorem dL_isWidth_240 : decode cL_isWidth 240 = .ok (.iconst 2, 1) := by decide +kernel
theorem dL_isWidth_241 : decode cL_isWidth 241 = .ok (.invokevirtual 77, 3) := by decide +kernel
theorem dL_isWidth_244 : decode cL_isWidth 244 = .ok (.iload 5, 2) := by decide +kernel
theorem dL_isWidth_246 : decode cL_isWidth 246 = .ok (.if_icmp .ne 61, 3) := by decide +kernel
theorem dL_isWidth_249 : decode cL_isWidth 249 = .ok (.aload_n 0, 1) := by decide +kernel
theorem dL_isWidth_250 : decode cL_isWidth 250 = .ok (.iconst 3, 1) := by decide +kernel
theorem dL_isWidth_251 : decode cL_isWidth 251 = .ok (.invokevirtual 77, 3) := by decide +kernel
theorem dL_isWidth_254 : decode cL_isWidth 254 = .ok (.iload 4, 2) := by decide +kernel
theorem dL_isWidth_256 : decode cL_isWidth 256 = .ok (.if_icmp .ne 51, 3) := by decide +kernel
theorem dL_isWidth_259 : decode cL_isWidth 259 = .ok (.iload 4, 2) := by decide +kernel
theorem dL_isWidth_261 : decode cL_isWidth 261 = .ok (.iload_n 3, 1) := by decide +kernel
theorem dL_isWidth_262 : decode cL_isWidth 262 = .ok (.if_icmp .gt 45, 3) := by decide +kernel
theorem dL_isWidth_265 : decode cL_isWidth 265 = .ok (.iload 9, 2) := by decide +kernel
theorem dL_isWidth_267 : decode cL_isWidth 267 = .ok (.aload_n 0, 1) := by decide +kernel
theorem dL_isWidth_268 : decode cL_isWidth 268 = .ok (.iconst 5, 1) := by decide +kernel
theorem dL_isWidth_269 : decode cL_isWidth 269 = .ok (.invokevirtual 77, 3) := by decide +kernel
theorem dL_isWidth_272 : decode cL_isWidth 272 = .ok (.if_icmp .ne 35, 3) := by decide +kernel
theorem dL_isWidth_275 : decode cL_isWidth 275 = .ok (.iload 9, 2) := by decide +kernel
theorem dL_isWidth_277 : decode cL_isWidth 277 = .ok (.iconst 1, 1) := by decide +kernel
theorem dL_isWidth_278 : decode cL_isWidth 278 = .ok (.if_icmp .lt 29, 3) := by decide +kernel
theorem dL_isWidth_281 : decode cL_isWidth 281 = .ok (.iload 9, 2) := by decide +kernel
theorem dL_isWidth_283 : decode cL_isWidth 283 = .ok (.iload 5, 2) := by decide +kernel
theorem dL_isWidth_285 : decode cL_isWidth 285 = .ok (.if_icmp .gt 22, 3) := by decide +kernel
theorem dL_isWidth_288 : decode cL_isWidth 288 = .ok (.iload_n 3, 1) := by decide +kernel
theorem dL_isWidth_289 : decode cL_isWidth 289 = .ok (.aload_n 0, 1) := by decide +kernel
theorem dL_isWidth_290 : decode cL_isWidth 290 = .ok (.iconst 3, 1) := by decide +kernel
theorem dL_isWidth_291 : decode cL_isWidth 291 = .ok (.invokevirtual 32, 3) := by decide +kernel
theorem dL_isWidth_294 : decode cL_isWidth 294 = .ok (.if_icmp .gt 9, 3) := by decide +kernel
theorem dL_isWidth_297 : decode cL_isWidth 297 = .ok (.iload 9, 2) := by decide +kernel
theorem dL_isWidth_299 : decode cL_isWidth 299 = .ok (.iconst 1, 1) := by decide +kernel
theorem dL_isWidth_300 : decode cL_isWidth 300 = .ok (.if_icmp .ne 7, 3) := by decide +kernel
theorem dL_isWidth_303 : decode cL_isWidth 303 = .ok (.iconst 1, 1) := by decide +kernel
theorem dL_isWidth_304 : decode cL_isWidth 304 = .ok (.goto 4, 3) := by decide +kernel
theorem dL_isWidth_307 : decode cL_isWidth 307 = .ok (.iconst 0, 1) := by decide +kernel
theorem dL_isWidth_308 : decode cL_isWidth 308 = .ok (.ireturn, 1) := by decide +kernel
theorem dL_act_0 : decode cL_act 0 = .ok (.iload_n 2, 1) := by decide +kernel
theorem dL_act_1 : decode cL_act 1 = .ok (.bipush 10, 2) := by decide +kernel
theorem dL_act_3 : decode cL_act 3 = .ok (.invokestatic 71, 3) := by decide +kernel
theorem dL_act_6 : decode cL_act 6 = .ok (.istore_n 3, 1) := by decide +kernel
theorem dL_act_7 : decode cL_act 7 = .ok (.iload_n 1, 1) := by decide +kernel
theorem dL_act_8 : decode cL_act 8 = .ok (.bipush 18, 2) := by decide +kernel
theorem dL_act_10 : decode cL_act 10 = .ok (.invokestatic 71, 3) := by decide +kernel
theorem dL_act_13 : decode cL_act 13 = .ok (.tableswitch 659 0 7 #[47, 102, 183, 264, 378, 530, 560, 569], 47) := by decide +kernel
theorem dL_act_60 : decode cL_act 60 = .ok (.aload_n 0, 1) := by decide +kernel
theorem dL_act_61 : decode cL_act 61 = .ok (.iload_n 3, 1) := by decide +kernel
theorem dL_act_62 : decode cL_act 62 = .ok (.iconst 0, 1) := by decide +kernel
theorem dL_act_63 : decode cL_act 63 = .ok (.invokevirtual 16, 3) := by decide +kernel
theorem dL_act_66 : decode cL_act 66 = .ok (.istore 4, 2) := by decide +kernel
theorem dL_act_68 : decode cL_act 68 = .ok (.aload_n 0, 1) := by decide +kernel
theorem dL_act_69 : decode cL_act 69 = .ok (.iload_n 3, 1) := by decide +kernel
theorem dL_act_70 : decode cL_act 70 = .ok (.bipush 13, 2) := by decide +kernel
theorem dL_act_72 : decode cL_act 72 = .ok (.iload_n 2, 1) := by decide +kernel
theorem dL_act_73 : decode cL_act 73 = .ok (.iconst 4, 1) := by decide +kernel
theorem dL_act_74 : decode cL_act 74 = .ok (.ishr, 1) := by decide +kernel
theorem dL_act_75 : decode cL_act 75 = .ok (.bipush 18, 2) := by decide +kernel
theorem dL_act_77 : decode cL_act 77 = .ok (.invokestatic 71, 3) := by decide +kernel
theorem dL_act_80 : decode cL_act 80 = .ok (.iadd, 1) := by decide +kernel
theorem dL_act_81 : decode cL_act 81 = .ok (.invokevirtual 83, 3) := by decide +kernel
theorem dL_act_84 : decode cL_act 84 = .ok (.iload 4, 2) := by decide +kernel
theorem dL_act_86 : decode cL_act 86 = .ok (.if_icmp .ne 27, 3) := by decide +kernel
theorem dL_act_89 : decode cL_act 89 = .ok (.aload_n 0, 1) := by decide +kernel
theorem dL_act_90 : decode cL_act 90 = .ok (.iload_n 3, 1) := by decide +kernel
theorem dL_act_91 : decode cL_act 91 = .ok (.iconst 0, 1) := by decide +kernel
theorem dL_act_92 : decode cL_act 92 = .ok (.invokevirtual 16, 3) := by decide +kernel
theorem dL_act_95 : decode cL_act 95 = .ok (.bipush 13, 2) := by decide +kernel
theorem dL_act_97 : decode cL_act 97 = .ok (.iload_n 2, 1) := by decide +kernel
theorem dL_act_98 : decode cL_act 98 = .ok (.iconst 4, 1) := by decide +kernel
theorem dL_act_99 : decode cL_act 99 = .ok (.ishr, 1) := by decide +kernel
theorem dL_act_100 : decode cL_act 100 = .ok (.bipush 18, 2) := by decide +kernel
theorem dL_act_102 : decode cL_act 102 = .ok (.invokestatic 71, 3) := by decide +kernel
theorem dL_act_105 : decode cL_act 105 = .ok (.iadd, 1) := by decide +kernel
theorem dL_act_106 : decode cL_act 106 = .ok (.if_icmp .ne 7, 3) := by decide +kernel
theorem dL_act_109 : decode cL_act 109 = .ok (.iconst 1, 1) := by decide +kernel
theorem dL_act_110 : decode cL_act 110 = .ok (.goto 4, 3) := by decide +kernel
theorem dL_act_113 : decode cL_act 113 = .ok (.iconst 0, 1) := by decide +kernel
theorem dL_act_114 : decode cL_act 114 = .ok (.ireturn, 1) := by decide +kernel
theorem dL_act_115 : decode cL_act 115 = .ok (.iconst 4, 1) := by decide +kernel
theorem dL_act_116 : decode cL_act 116 = .ok (.aload_n 0, 1) := by decide +kernel
theorem dL_act_117 : decode cL_act 117 = .ok (.iload_n 3, 1) := by decide +kernel
theorem dL_act_118 : decode cL_act 118 = .ok (.iconst 1, 1) := by decide +kernel
theorem dL_act_119 : decode cL_act 119 = .ok (.invokevirtual 16, 3) := by decide +kernel
theorem dL_act_122 : decode cL_act 122 = .ok (.imul, 1) := by decide +kernel
theorem dL_act_123 : decode cL_act 123 = .ok (.aload_n 0, 1) := by decide +kernel
theorem dL_act_124 : decode cL_act 124 = .ok (.iload_n 3, 1) := by decide +kernel
theorem dL_act_125 : decode cL_act 125 = .ok (.iconst 2, 1) := by decide +kernel
theorem dL_act_126 : decode cL_act 126 = .ok (.invokevirtual 16, 3) := by decide +kernel
theorem dL_act_129 : decode cL_act 129 = .ok (.iadd, 1) := by decide +kernel
theorem dL_act_130 : decode cL_act 130 = .ok (.istore 4, 2) := by decide +kernel
theorem dL_act_132 : decode cL_act 132 = .ok (.aload_n 0, 1) := by decide +kernel
theorem dL_act_133 : decode cL_act 133 = .ok (.iload_n 3, 1) := by decide +kernel
theorem dL_act_134 : decode cL_act 134 = .ok (.iload_n 2, 1) := by decide +kernel
theorem dL_act_135 : decode cL_act 135 = .ok (.iconst 4, 1) := by decide +kernel
theorem dL_act_136 : decode cL_act 136 = .ok (.ishr, 1) := by decide +kernel
theorem dL_act_137 : decode cL_act 137 = .ok (.iconst 4, 1) := by decide +kernel
theorem dL_act_138 : decode cL_act 138 = .ok (.invokestatic 71, 3) := by decide +kernel
theorem dL_act_141 : decode cL_act 141 = .ok (.iload_n 2, 1) := by decide +kernel
theorem dL_act_142 : decode cL_act 142 = .ok (.bipush 6, 2) := by decide +kernel
theorem dL_act_144 : decode cL_act 144 = .ok (.ishr, 1) := by decide +kernel
theorem dL_act_145 : decode cL_act 145 = .ok (.iconst 4, 1) := by decide +kernel
theorem dL_act_146 : decode cL_act 146 = .ok (.invokestatic 71, 3) := by decide +kernel
theorem dL_act_149 : decode cL_act 149 = .ok (.invokevirtual 86, 3) := by decide +kernel
theorem dL_act_152 : decode cL_act 152 = .ok (.iload 4, 2) := by decide +kernel
theorem dL_act_154 : decode cL_act 154 = .ok (.if_icmp .ne 40, 3) := by decide +kernel
theorem dL_act_157 : decode cL_act 157 = .ok (.aload_n 0, 1) := by decide +kernel
theorem dL_act_158 : decode cL_act 158 = .ok (.iload_n 3, 1) := by decide +kernel
theorem dL_act_159 : decode cL_act 159 = .ok (.iconst 1, 1) := by decide +kernel
theorem dL_act_160 : decode cL_act 160 = .ok (.invokevirtual 16, 3) := by decide +kernel
theorem dL_act_163 : decode cL_act 163 = .ok (.iload_n 2, 1) := by decide +kernel
theorem dL_act_164 : decode cL_act 164 = .ok (.iconst 4, 1) := by decide +kernel
theorem dL_act_165 : decode cL_act 165 = .ok (.ishr, 1) := by decide +kernel
theorem dL_act_166 : decode cL_act 166 = .ok (.iconst 4, 1) := by decide +kernel
theorem dL_act_167 : decode cL_act 167 = .ok (.invokestatic 71, 3) := by decide +kernel
theorem dL_act_170 : decode cL_act 170 = .ok (.if_icmp .ne 24, 3) := by decide +kernel
theorem dL_act_173 : decode cL_act 173 = .ok (.aload_n 0, 1) := by decide +kernel
theorem dL_act_174 : decode cL_act 174 = .ok (.iload_n 3, 1) := by decide +kernel
theorem dL_act_175 : decode cL_act 175 = .ok (.iconst 2, 1) := by decide +kernel
theorem dL_act_176 : decode cL_act 176 = .ok (.invokevirtual 16, 3) := by decide +kernel
theorem dL_act_179 : decode cL_act 179 = .ok (.iload_n 2, 1) := by decide +kernel
theorem dL_act_180 : decode cL_act 180 = .ok (.bipush 6, 2) := by decide +kernel
theorem dL_act_182 : decode cL_act 182 = .ok (.ishr, 1) := by decide +kernel
theorem dL_act_183 : decode cL_act 183 = .ok (.iconst 4, 1) := by decide +kernel
theorem dL_act_184 : decode cL_act 184 = .ok (.invokestatic 71, 3) := by decide +kernel
theorem dL_act_187 : decode cL_act 187 = .ok (.if_icmp .ne 7, 3) := by decide +kernel
theorem dL_act_190 : decode cL_act 190 = .ok (.iconst 1, 1) := by decide +kernel
theorem dL_act_191 : decode cL_act 191 = .ok (.goto 4, 3) := by decide +kernel
theorem dL_act_194 : decode cL_act 194 = .ok (.iconst 0, 1) := by decide +kernel
theorem dL_act_195 : decode cL_act 195 = .ok (.ireturn, 1) := by decide +kernel
theorem dL_act_196 : decode cL_act 196 = .ok (.aload_n 0, 1) := by decide +kernel
theorem dL_act_197 : decode cL_act 197 = .ok (.iload_n 3, 1) := by decide +kernel
theorem dL_act_198 : decode cL_act 198 = .ok (.iconst 4, 1) := by decide +kernel
theorem dL_act_199 : decode cL_act 199 = .ok (.irem, 1) := by decide +kernel
theorem dL_act_200 : decode cL_act 200 = .ok (.iload_n 2, 1) := by decide +kernel
theorem dL_act_201 : decode cL_act 201 = .ok (.iconst 4, 1) := by decide +kernel
theorem dL_act_202 : decode cL_act 202 = .ok (.ishr, 1) := by decide +kernel
theorem dL_act_203 : decode cL_act 203 = .ok (.iconst 4, 1) := by decide +kernel
theorem dL_act_204 : decode cL_act 204 = .ok (.invokestatic 71, 3) := by decide +kernel
theorem dL_act_207 : decode cL_act 207 = .ok (.iconst 1, 1) := by decide +kernel
theorem dL_act_208 : decode cL_act 208 = .ok (.invokevirtual 29, 3) := by decide +kernel
theorem dL_act_211 : decode cL_act 211 = .ok (.istore 4, 2) := by decide +kernel
theorem dL_act_213 : decode cL_act 213 = .ok (.iload_n 2, 1) := by decide +kernel
theorem dL_act_214 : decode cL_act 214 = .ok (.bipush 6, 2) := by decide +kernel
theorem dL_act_216 : decode cL_act 216 = .ok (.ishr, 1) := by decide +kernel
theorem dL_act_217 : decode cL_act 217 = .ok (.bipush 25, 2) := by decide +kernel
theorem dL_act_219 : decode cL_act 219 = .ok (.invokestatic 71, 3) := by decide +kernel
theorem dL_act_222 : decode cL_act 222 = .ok (.bipush 12, 2) := by decide +kernel
theorem dL_act_224 : decode cL_act 224 = .ok (.isub, 1) := by decide +kernel
theorem dL_act_225 : decode cL_act 225 = .ok (.istore 5, 2) := by decide +kernel
theorem dL_act_227 : decode cL_act 227 = .ok (.aload_n 0, 1) := by decide +kernel
theorem dL_act_228 : decode cL_act 228 = .ok (.iload_n 3, 1) := by decide +kernel
theorem dL_act_229 : decode cL_act 229 = .ok (.iconst 4, 1) := by decide +kernel
theorem dL_act_230 : decode cL_act 230 = .ok (.irem, 1) := by decide +kernel
theorem dL_act_231 : decode cL_act 231 = .ok (.iload_n 2, 1) := by decide +kernel
theorem dL_act_232 : decode cL_act 232 = .ok (.iconst 4, 1) := by decide +kernel
theorem dL_act_233 : decode cL_act 233 = .ok (.ishr, 1) := by decide +kernel
theorem dL_act_234 : decode cL_act 234 = .ok (.iconst 4, 1) := by decide +kernel
theorem dL_act_235 : decode cL_act 235 = .ok (.invokestatic 71, 3) := by decide +kernel
theorem dL_act_238 : decode cL_act 238 = .ok (.iload 5, 2) := by decide +kernel
theorem dL_act_240 : decode cL_act 240 = .ok (.invokevirtual 89, 3) := by decide +kernel
theorem dL_act_243 : decode cL_act 243 = .ok (.iload 4, 2) := by decide +kernel
theorem dL_act_245 : decode cL_act 245 = .ok (.if_icmp .ne 30, 3) := by decide +kernel
theorem dL_act_248 : decode cL_act 248 = .ok (.aload_n 0, 1) := by decide +kernel
theorem dL_act_249 : decode cL_act 249 = .ok (.iload_n 3, 1) := by decide +kernel
theorem dL_act_250 : decode cL_act 250 = .ok (.iconst 4, 1) := by decide +kernel
theorem dL_act_251 : decode cL_act 251 = .ok (.irem, 1) := by decide +kernel
theorem dL_act_252 : decode cL_act 252 = .ok (.iload_n 2, 1) := by decide +kernel
theorem dL_act_253 : decode cL_act 253 = .ok (.iconst 4, 1) := by decide +kernel
theorem dL_act_254 : decode cL_act 254 = .ok (.ishr, 1) := by decide +kernel
theorem dL_act_255 : decode cL_act 255 = .ok (.iconst 4, 1) := by decide +kernel
theorem dL_act_256 : decode cL_act 256 = .ok (.invokestatic 71, 3) := by decide +kernel
theorem dL_act_259 : decode cL_act 259 = .ok (.iconst 1, 1) := by decide +kernel
theorem dL_act_260 : decode cL_act 260 = .ok (.invokevirtual 29, 3) := by decide +kernel
theorem dL_act_263 : decode cL_act 263 = .ok (.iload 5, 2) := by decide +kernel
theorem dL_act_265 : decode cL_act 265 = .ok (.bipush 100, 2) := by decide +kernel
theorem dL_act_267 : decode cL_act 267 = .ok (.iadd, 1) := by decide +kernel
theorem dL_act_268 : decode cL_act 268 = .ok (.if_icmp .ne 7, 3) := by decide +kernel
theorem dL_act_271 : decode cL_act 271 = .ok (.iconst 1, 1) := by decide +kernel
theorem dL_act_272 : decode cL_act 272 = .ok (.goto 4, 3) := by decide +kernel
theorem dL_act_275 : decode cL_act 275 = .ok (.iconst 0, 1) := by decide +kernel
theorem dL_act_276 : decode cL_act 276 = .ok (.ireturn, 1) := by decide +kernel
theorem dL_act_277 : decode cL_act 277 = .ok (.iload_n 2, 1) := by decide +kernel
theorem dL_act_278 : decode cL_act 278 = .ok (.iconst 4, 1) := by decide +kernel
theorem dL_act_279 : decode cL_act 279 = .ok (.invokestatic 71, 3) := by decide +kernel
theorem dL_act_282 : decode cL_act 282 = .ok (.istore 4, 2) := by decide +kernel
theorem dL_act_284 : decode cL_act 284 = .ok (.iload 4, 2) := by decide +kernel
theorem dL_act_286 : decode cL_act 286 = .ok (.ifCond .ne 16, 3) := by decide +kernel
theorem dL_act_289 : decode cL_act 289 = .ok (.iconst 1, 1) := by decide +kernel
theorem dL_act_290 : decode cL_act 290 = .ok (.iload_n 2, 1) := by decide +kernel
theorem dL_act_291 : decode cL_act 291 = .ok (.iconst 2, 1) := by decide +kernel
theorem dL_act_292 : decode cL_act 292 = .ok (.ishr, 1) := by decide +kernel
theorem dL_act_293 : decode cL_act 293 = .ok (.bipush 6, 2) := by decide +kernel
theorem dL_act_295 : decode cL_act 295 = .ok (.invokestatic 71, 3) := by decide +kernel
theorem dL_act_298 : decode cL_act 298 = .ok (.iadd, 1) := by decide +kernel
theorem dL_act_299 : decode cL_act 299 = .ok (.goto 52, 3) := by decide +kernel
theorem dL_act_302 : decode cL_act 302 = .ok (.iload 4, 2) := by decide +kernel
theorem dL_act_304 : decode cL_act 304 = .ok (.iconst 1, 1) := by decide +kernel
theorem dL_act_305 : decode cL_act 305 = .ok (.if_icmp .ne 15, 3) := by decide +kernel
theorem dL_act_308 : decode cL_act 308 = .ok (.iconst 2, 1) := by decide +kernel
theorem dL_act_309 : decode cL_act 309 = .ok (.iload_n 2, 1) := by decide +kernel
theorem dL_act_310 : decode cL_act 310 = .ok (.iconst 2, 1) := by decide +kernel
theorem dL_act_311 : decode cL_act 311 = .ok (.ishr, 1) := by decide +kernel
theorem dL_act_312 : decode cL_act 312 = .ok (.iconst 4, 1) := by decide +kernel
theorem dL_act_313 : decode cL_act 313 = .ok (.invokestatic 71, 3) := by decide +kernel
theorem dL_act_316 : decode cL_act 316 = .ok (.iadd, 1) := by decide +kernel
theorem dL_act_317 : decode cL_act 317 = .ok (.goto 34, 3) := by decide +kernel
theorem dL_act_320 : decode cL_act 320 = .ok (.iload 4, 2) := by decide +kernel
theorem dL_act_322 : decode cL_act 322 = .ok (.iconst 2, 1) := by decide +kernel
theorem dL_act_323 : decode cL_act 323 = .ok (.if_icmp .ne 16, 3) := by decide +kernel
theorem dL_act_326 : decode cL_act 326 = .ok (.iconst 1, 1) := by decide +kernel
theorem dL_act_327 : decode cL_act 327 = .ok (.iload_n 2, 1) := by decide +kernel
theorem dL_act_328 : decode cL_act 328 = .ok (.iconst 2, 1) := by decide +kernel
theorem dL_act_329 : decode cL_act 329 = .ok (.ishr, 1) := by decide +kernel
theorem dL_act_330 : decode cL_act 330 = .ok (.bipush 20, 2) := by decide +kernel
theorem dL_act_332 : decode cL_act 332 = .ok (.invokestatic 71, 3) := by decide +kernel
theorem dL_act_335 : decode cL_act 335 = .ok (.iadd, 1) := by decide +kernel
theorem dL_act_336 : decode cL_act 336 = .ok (.goto 15, 3) := by decide +kernel
theorem dL_act_339 : decode cL_act 339 = .ok (.bipush 40, 2) := by decide +kernel
theorem dL_act_341 : decode cL_act 341 = .ok (.iload_n 2, 1) := by decide +kernel
theorem dL_act_342 : decode cL_act 342 = .ok (.iconst 2, 1) := by decide +kernel
theorem dL_act_343 : decode cL_act 343 = .ok (.ishr, 1) := by decide +kernel
theorem dL_act_344 : decode cL_act 344 = .ok (.sipush 561, 3) := by decide +kernel
theorem dL_act_347 : decode cL_act 347 = .ok (.invokestatic 71, 3) := by decide +kernel
theorem dL_act_350 : decode cL_act 350 = .ok (.iadd, 1) := by decide +kernel
theorem dL_act_351 : decode cL_act 351 = .ok (.istore 5, 2) := by decide +kernel
theorem dL_act_353 : decode cL_act 353 = .ok (.aload_n 0, 1) := by decide +kernel
theorem dL_act_354 : decode cL_act 354 = .ok (.iload 4, 2) := by decide +kernel
theorem dL_act_356 : decode cL_act 356 = .ok (.invokevirtual 32, 3) := by decide +kernel
theorem dL_act_359 : decode cL_act 359 = .ok (.istore 6, 2) := by decide +kernel
theorem dL_act_361 : decode cL_act 361 = .ok (.aload_n 0, 1) := by decide +kernel
theorem dL_act_362 : decode cL_act 362 = .ok (.iload 4, 2) := by decide +kernel
theorem dL_act_364 : decode cL_act 364 = .ok (.iload 5, 2) := by decide +kernel
theorem dL_act_366 : decode cL_act 366 = .ok (.invokevirtual 92, 3) := by decide +kernel
theorem dL_act_369 : decode cL_act 369 = .ok (.iload 6, 2) := by decide +kernel
theorem dL_act_371 : decode cL_act 371 = .ok (.if_icmp .ne 18, 3) := by decide +kernel
theorem dL_act_374 : decode cL_act 374 = .ok (.aload_n 0, 1) := by decide +kernel
theorem dL_act_375 : decode cL_act 375 = .ok (.iload 4, 2) := by decide +kernel
theorem dL_act_377 : decode cL_act 377 = .ok (.invokevirtual 32, 3) := by decide +kernel
theorem dL_act_380 : decode cL_act 380 = .ok (.iload 5, 2) := by decide +kernel
theorem dL_act_382 : decode cL_act 382 = .ok (.if_icmp .ne 7, 3) := by decide +kernel
theorem dL_act_385 : decode cL_act 385 = .ok (.iconst 1, 1) := by decide +kernel
theorem dL_act_386 : decode cL_act 386 = .ok (.goto 4, 3) := by decide +kernel
theorem dL_act_389 : decode cL_act 389 = .ok (.iconst 0, 1) := by decide +kernel
theorem dL_act_390 : decode cL_act 390 = .ok (.ireturn, 1) := by decide +kernel
theorem dL_act_391 : decode cL_act 391 = .ok (.aload_n 0, 1) := by decide +kernel
theorem dL_act_392 : decode cL_act 392 = .ok (.invokestatic 95, 3) := by decide +kernel
theorem dL_act_395 : decode cL_act 395 = .ok (.lstore 4, 2) := by decide +kernel
theorem dL_act_397 : decode cL_act 397 = .ok (.aload_n 0, 1) := by decide +kernel
theorem dL_act_398 : decode cL_act 398 = .ok (.bipush 6, 2) := by decide +kernel
theorem dL_act_400 : decode cL_act 400 = .ok (.invokevirtual 36, 3) := by decide +kernel
theorem dL_act_403 : decode cL_act 403 = .ok (.istore 6, 2) := by decide +kernel
theorem dL_act_405 : decode cL_act 405 = .ok (.iload_n 2, 1) := by decide +kernel
theorem dL_act_406 : decode cL_act 406 = .ok (.iconst 4, 1) := by decide +kernel
theorem dL_act_407 : decode cL_act 407 = .ok (.invokestatic 71, 3) := by decide +kernel
theorem dL_act_410 : decode cL_act 410 = .ok (.istore 7, 2) := by decide +kernel
theorem dL_act_412 : decode cL_act 412 = .ok (.iload_n 2, 1) := by decide +kernel
theorem dL_act_413 : decode cL_act 413 = .ok (.iconst 2, 1) := by decide +kernel
theorem dL_act_414 : decode cL_act 414 = .ok (.ishr, 1) := by decide +kernel
theorem dL_act_415 : decode cL_act 415 = .ok (.iconst 4, 1) := by decide +kernel
theorem dL_act_416 : decode cL_act 416 = .ok (.invokestatic 71, 3) := by decide +kernel
theorem dL_act_419 : decode cL_act 419 = .ok (.istore 8, 2) := by decide +kernel
theorem dL_act_421 : decode cL_act 421 = .ok (.aload_n 0, 1) := by decide +kernel
theorem dL_act_422 : decode cL_act 422 = .ok (.iload_n 3, 1) := by decide +kernel
theorem dL_act_423 : decode cL_act 423 = .ok (.aload_n 0, 1) := by decide +kernel
theorem dL_act_424 : decode cL_act 424 = .ok (.iload_n 3, 1) := by decide +kernel
theorem dL_act_425 : decode cL_act 425 = .ok (.iconst 1, 1) := by decide +kernel
theorem dL_act_426 : decode cL_act 426 = .ok (.invokevirtual 16, 3) := by decide +kernel
theorem dL_act_429 : decode cL_act 429 = .ok (.aload_n 0, 1) := by decide +kernel
theorem dL_act_430 : decode cL_act 430 = .ok (.iload_n 3, 1) := by decide +kernel
theorem dL_act_431 : decode cL_act 431 = .ok (.iconst 2, 1) := by decide +kernel
theorem dL_act_432 : decode cL_act 432 = .ok (.invokevirtual 16, 3) := by decide +kernel
theorem dL_act_435 : decode cL_act 435 = .ok (.invokevirtual 86, 3) := by decide +kernel
theorem dL_act_438 : decode cL_act 438 = .ok (.ifCond .lt 68, 3) := by decide +kernel
theorem dL_act_441 : decode cL_act 441 = .ok (.aload_n 0, 1) := by decide +kernel
theorem dL_act_442 : decode cL_act 442 = .ok (.iload 7, 2) := by decide +kernel
theorem dL_act_444 : decode cL_act 444 = .ok (.iload 8, 2) := by decide +kernel
theorem dL_act_446 : decode cL_act 446 = .ok (.aload_n 0, 1) := by decide +kernel
theorem dL_act_447 : decode cL_act 447 = .ok (.iload 7, 2) := by decide +kernel
theorem dL_act_449 : decode cL_act 449 = .ok (.iload 8, 2) := by decide +kernel
theorem dL_act_451 : decode cL_act 451 = .ok (.iconst 1, 1) := by decide +kernel
theorem dL_act_452 : decode cL_act 452 = .ok (.invokevirtual 29, 3) := by decide +kernel
theorem dL_act_455 : decode cL_act 455 = .ok (.bipush 100, 2) := by decide +kernel
theorem dL_act_457 : decode cL_act 457 = .ok (.isub, 1) := by decide +kernel
theorem dL_act_458 : decode cL_act 458 = .ok (.invokevirtual 89, 3) := by decide +kernel
theorem dL_act_461 : decode cL_act 461 = .ok (.bipush 88, 2) := by decide +kernel
theorem dL_act_463 : decode cL_act 463 = .ok (.if_icmp .lt 43, 3) := by decide +kernel
theorem dL_act_466 : decode cL_act 466 = .ok (.aload_n 0, 1) := by decide +kernel
theorem dL_act_467 : decode cL_act 467 = .ok (.iconst 0, 1) := by decide +kernel
theorem dL_act_468 : decode cL_act 468 = .ok (.aload_n 0, 1) := by decide +kernel
theorem dL_act_469 : decode cL_act 469 = .ok (.iconst 0, 1) := by decide +kernel
theorem dL_act_470 : decode cL_act 470 = .ok (.invokevirtual 32, 3) := by decide +kernel
theorem dL_act_473 : decode cL_act 473 = .ok (.invokevirtual 92, 3) := by decide +kernel
theorem dL_act_476 : decode cL_act 476 = .ok (.aload_n 0, 1) := by decide +kernel
theorem dL_act_477 : decode cL_act 477 = .ok (.iconst 0, 1) := by decide +kernel
theorem dL_act_478 : decode cL_act 478 = .ok (.invokevirtual 32, 3) := by decide +kernel
theorem dL_act_481 : decode cL_act 481 = .ok (.if_icmp .ne 25, 3) := by decide +kernel
theorem dL_act_484 : decode cL_act 484 = .ok (.aload_n 0, 1) := by decide +kernel
theorem dL_act_485 : decode cL_act 485 = .ok (.iconst 1, 1) := by decide +kernel
theorem dL_act_486 : decode cL_act 486 = .ok (.aload_n 0, 1) := by decide +kernel
theorem dL_act_487 : decode cL_act 487 = .ok (.iconst 1, 1) := by decide +kernel
theorem dL_act_488 : decode cL_act 488 = .ok (.invokevirtual 32, 3) := by decide +kernel
theorem dL_act_491 : decode cL_act 491 = .ok (.invokevirtual 92, 3) := by decide +kernel
theorem dL_act_494 : decode cL_act 494 = .ok (.aload_n 0, 1) := by decide +kernel
theorem dL_act_495 : decode cL_act 495 = .ok (.iconst 1, 1) := by decide +kernel
theorem dL_act_496 : decode cL_act 496 = .ok (.invokevirtual 32, 3) := by decide +kernel
theorem dL_act_499 : decode cL_act 499 = .ok (.if_icmp .ne 7, 3) := by decide +kernel
theorem dL_act_502 : decode cL_act 502 = .ok (.iconst 1, 1) := by decide +kernel
theorem dL_act_503 : decode cL_act 503 = .ok (.goto 4, 3) := by decide +kernel
theorem dL_act_506 : decode cL_act 506 = .ok (.iconst 0, 1) := by decide +kernel
theorem dL_act_507 : decode cL_act 507 = .ok (.istore 9, 2) := by decide +kernel
theorem dL_act_509 : decode cL_act 509 = .ok (.iload 9, 2) := by decide +kernel
theorem dL_act_511 : decode cL_act 511 = .ok (.ifCond .eq 30, 3) := by decide +kernel
theorem dL_act_514 : decode cL_act 514 = .ok (.aload_n 0, 1) := by decide +kernel
theorem dL_act_515 : decode cL_act 515 = .ok (.invokestatic 95, 3) := by decide +kernel
theorem dL_act_518 : decode cL_act 518 = .ok (.lload 4, 2) := by decide +kernel
theorem dL_act_520 : decode cL_act 520 = .ok (.lcmp, 1) := by decide +kernel
theorem dL_act_521 : decode cL_act 521 = .ok (.ifCond .ne 20, 3) := by decide +kernel
theorem dL_act_524 : decode cL_act 524 = .ok (.aload_n 0, 1) := by decide +kernel
theorem dL_act_525 : decode cL_act 525 = .ok (.bipush 6, 2) := by decide +kernel
theorem dL_act_527 : decode cL_act 527 = .ok (.invokevirtual 36, 3) := by decide +kernel
theorem dL_act_530 : decode cL_act 530 = .ok (.iload 6, 2) := by decide +kernel
theorem dL_act_532 : decode cL_act 532 = .ok (.iconst 4, 1) := by decide +kernel
theorem dL_act_533 : decode cL_act 533 = .ok (.iadd, 1) := by decide +kernel
theorem dL_act_534 : decode cL_act 534 = .ok (.if_icmp .ne 7, 3) := by decide +kernel
theorem dL_act_537 : decode cL_act 537 = .ok (.iconst 1, 1) := by decide +kernel
theorem dL_act_538 : decode cL_act 538 = .ok (.goto 4, 3) := by decide +kernel
theorem dL_act_541 : decode cL_act 541 = .ok (.iconst 0, 1) := by decide +kernel
theorem dL_act_542 : decode cL_act 542 = .ok (.ireturn, 1) := by decide +kernel
theorem dL_act_543 : decode cL_act 543 = .ok (.aload_n 0, 1) := by decide +kernel
theorem dL_act_544 : decode cL_act 544 = .ok (.iconst 0, 1) := by decide +kernel
theorem dL_act_545 : decode cL_act 545 = .ok (.invokevirtual 36, 3) := by decide +kernel
theorem dL_act_548 : decode cL_act 548 = .ok (.ifCond .eq 19, 3) := by decide +kernel
theorem dL_act_551 : decode cL_act 551 = .ok (.aload_n 0, 1) := by decide +kernel
theorem dL_act_552 : decode cL_act 552 = .ok (.iload_n 2, 1) := by decide +kernel
theorem dL_act_553 : decode cL_act 553 = .ok (.aload_n 0, 1) := by decide +kernel
theorem dL_act_554 : decode cL_act 554 = .ok (.iconst 0, 1) := by decide +kernel
theorem dL_act_555 : decode cL_act 555 = .ok (.invokevirtual 36, 3) := by decide +kernel
theorem dL_act_558 : decode cL_act 558 = .ok (.invokestatic 71, 3) := by decide +kernel
theorem dL_act_561 : decode cL_act 561 = .ok (.invokestatic 99, 3) := by decide +kernel
theorem dL_act_564 : decode cL_act 564 = .ok (.ifCond .eq 7, 3) := by decide +kernel
theorem dL_act_567 : decode cL_act 567 = .ok (.iconst 1, 1) := by decide +kernel
theorem dL_act_568 : decode cL_act 568 = .ok (.goto 4, 3) := by decide +kernel
theorem dL_act_571 : decode cL_act 571 = .ok (.iconst 0, 1) := by decide +kernel
theorem dL_act_572 : decode cL_act 572 = .ok (.ireturn, 1) := by decide +kernel
theorem dL_act_573 : decode cL_act 573 = .ok (.aload_n 0, 1) := by decide +kernel
theorem dL_act_574 : decode cL_act 574 = .ok (.iload_n 1, 1) := by decide +kernel
theorem dL_act_575 : decode cL_act 575 = .ok (.iconst 4, 1) := by decide +kernel
theorem dL_act_576 : decode cL_act 576 = .ok (.ishr, 1) := by decide +kernel
theorem dL_act_577 : decode cL_act 577 = .ok (.iload_n 2, 1) := by decide +kernel
theorem dL_act_578 : decode cL_act 578 = .ok (.invokestatic 103, 3) := by decide +kernel
theorem dL_act_581 : decode cL_act 581 = .ok (.ireturn, 1) := by decide +kernel
theorem dL_act_582 : decode cL_act 582 = .ok (.aload_n 0, 1) := by decide +kernel
theorem dL_act_583 : decode cL_act 583 = .ok (.iload_n 2, 1) := by decide +kernel
theorem dL_act_584 : decode cL_act 584 = .ok (.iconst 2, 1) := by decide +kernel
theorem dL_act_585 : decode cL_act 585 = .ok (.invokestatic 71, 3) := by decide +kernel
theorem dL_act_588 : decode cL_act 588 = .ok (.invokevirtual 107, 3) := by decide +kernel
theorem dL_act_591 : decode cL_act 591 = .ok (.istore 4, 2) := by decide +kernel
theorem dL_act_593 : decode cL_act 593 = .ok (.aload_n 0, 1) := by decide +kernel
theorem dL_act_594 : decode cL_act 594 = .ok (.invokestatic 95, 3) := by decide +kernel
theorem dL_act_597 : decode cL_act 597 = .ok (.lstore 5, 2) := by decide +kernel
theorem dL_act_599 : decode cL_act 599 = .ok (.iload 4, 2) := by decide +kernel
theorem dL_act_601 : decode cL_act 601 = .ok (.aload_n 0, 1) := by decide +kernel
theorem dL_act_602 : decode cL_act 602 = .ok (.iconst 0, 1) := by decide +kernel
theorem dL_act_603 : decode cL_act 603 = .ok (.invokevirtual 36, 3) := by decide +kernel
theorem dL_act_606 : decode cL_act 606 = .ok (.if_icmp .ne 64, 3) := by decide +kernel
theorem dL_act_609 : decode cL_act 609 = .ok (.aload_n 0, 1) := by decide +kernel
theorem dL_act_610 : decode cL_act 610 = .ok (.iload_n 2, 1) := by decide +kernel
theorem dL_act_611 : decode cL_act 611 = .ok (.iconst 1, 1) := by decide +kernel
theorem dL_act_612 : decode cL_act 612 = .ok (.ishr, 1) := by decide +kernel
theorem dL_act_613 : decode cL_act 613 = .ok (.bipush 100, 2) := by decide +kernel
theorem dL_act_615 : decode cL_act 615 = .ok (.invokestatic 71, 3) := by decide +kernel
theorem dL_act_618 : decode cL_act 618 = .ok (.iconst 1, 1) := by decide +kernel
theorem dL_act_619 : decode cL_act 619 = .ok (.invokestatic 110, 3) := by decide +kernel
theorem dL_act_622 : decode cL_act 622 = .ok (.ifCond .eq 48, 3) := by decide +kernel
theorem dL_act_625 : decode cL_act 625 = .ok (.aload_n 0, 1) := by decide +kernel
theorem dL_act_626 : decode cL_act 626 = .ok (.iload_n 2, 1) := by decide +kernel
theorem dL_act_627 : decode cL_act 627 = .ok (.bipush 8, 2) := by decide +kernel
theorem dL_act_629 : decode cL_act 629 = .ok (.ishr, 1) := by decide +kernel
theorem dL_act_630 : decode cL_act 630 = .ok (.bipush 100, 2) := by decide +kernel
theorem dL_act_632 : decode cL_act 632 = .ok (.invokestatic 71, 3) := by decide +kernel
theorem dL_act_635 : decode cL_act 635 = .ok (.iconst (-1), 1) := by decide +kernel
theorem dL_act_636 : decode cL_act 636 = .ok (.invokestatic 110, 3) := by decide +kernel
theorem dL_act_639 : decode cL_act 639 = .ok (.ifCond .eq 31, 3) := by decide +kernel
theorem dL_act_642 : decode cL_act 642 = .ok (.aload_n 0, 1) := by decide +kernel
theorem dL_act_643 : decode cL_act 643 = .ok (.iload_n 2, 1) := by decide +kernel
theorem dL_act_644 : decode cL_act 644 = .ok (.iconst 2, 1) := by decide +kernel
theorem dL_act_645 : decode cL_act 645 = .ok (.invokestatic 71, 3) := by decide +kernel
theorem dL_act_648 : decode cL_act 648 = .ok (.invokevirtual 113, 3) := by decide +kernel
theorem dL_act_651 : decode cL_act 651 = .ok (.iload 4, 2) := by decide +kernel
theorem dL_act_653 : decode cL_act 653 = .ok (.if_icmp .ne 17, 3) := by decide +kernel
theorem dL_act_656 : decode cL_act 656 = .ok (.aload_n 0, 1) := by decide +kernel
theorem dL_act_657 : decode cL_act 657 = .ok (.invokestatic 95, 3) := by decide +kernel
theorem dL_act_660 : decode cL_act 660 = .ok (.lload 5, 2) := by decide +kernel
theorem dL_act_662 : decode cL_act 662 = .ok (.lcmp, 1) := by decide +kernel
theorem dL_act_663 : decode cL_act 663 = .ok (.ifCond .ne 7, 3) := by decide +kernel
theorem dL_act_666 : decode cL_act 666 = .ok (.iconst 1, 1) := by decide +kernel
theorem dL_act_667 : decode cL_act 667 = .ok (.goto 4, 3) := by decide +kernel
theorem dL_act_670 : decode cL_act 670 = .ok (.iconst 0, 1) := by decide +kernel
theorem dL_act_671 : decode cL_act 671 = .ok (.ireturn, 1) := by decide +kernel
theorem dL_act_672 : decode cL_act 672 = .ok (.aload_n 0, 1) := by decide +kernel
theorem dL_act_673 : decode cL_act 673 = .ok (.iload_n 2, 1) := by decide +kernel
theorem dL_act_674 : decode cL_act 674 = .ok (.iconst 3, 1) := by decide +kernel
theorem dL_act_675 : decode cL_act 675 = .ok (.invokestatic 71, 3) := by decide +kernel
theorem dL_act_678 : decode cL_act 678 = .ok (.ifCond .ne 14, 3) := by decide +kernel
theorem dL_act_681 : decode cL_act 681 = .ok (.iload_n 2, 1) := by decide +kernel
theorem dL_act_682 : decode cL_act 682 = .ok (.iconst 2, 1) := by decide +kernel
theorem dL_act_683 : decode cL_act 683 = .ok (.ishr, 1) := by decide +kernel
theorem dL_act_684 : decode cL_act 684 = .ok (.bipush 100, 2) := by decide +kernel
theorem dL_act_686 : decode cL_act 686 = .ok (.invokestatic 71, 3) := by decide +kernel
theorem dL_act_689 : decode cL_act 689 = .ok (.goto 31, 3) := by decide +kernel
theorem dL_act_692 : decode cL_act 692 = .ok (.bipush 40, 2) := by decide +kernel
theorem dL_act_694 : decode cL_act 694 = .ok (.iload_n 2, 1) := by decide +kernel
theorem dL_act_695 : decode cL_act 695 = .ok (.iconst 2, 1) := by decide +kernel
theorem dL_act_696 : decode cL_act 696 = .ok (.ishr, 1) := by decide +kernel
theorem dL_act_697 : decode cL_act 697 = .ok (.iconst 2, 1) := by decide +kernel
theorem dL_act_698 : decode cL_act 698 = .ok (.invokestatic 71, 3) := by decide +kernel
theorem dL_act_701 : decode cL_act 701 = .ok (.imul, 1) := by decide +kernel
theorem dL_act_702 : decode cL_act 702 = .ok (.iconst 4, 1) := by decide +kernel
theorem dL_act_703 : decode cL_act 703 = .ok (.iload_n 2, 1) := by decide +kernel
theorem dL_act_704 : decode cL_act 704 = .ok (.iconst 3, 1) := by decide +kernel
theorem dL_act_705 : decode cL_act 705 = .ok (.ishr, 1) := by decide +kernel
theorem dL_act_706 : decode cL_act 706 = .ok (.iconst 2, 1) := by decide +kernel
theorem dL_act_707 : decode cL_act 707 = .ok (.invokestatic 71, 3) := by decide +kernel
theorem dL_act_710 : decode cL_act 710 = .ok (.imul, 1) := by decide +kernel
theorem dL_act_711 : decode cL_act 711 = .ok (.iadd, 1) := by decide +kernel
theorem dL_act_712 : decode cL_act 712 = .ok (.iload_n 2, 1) := by decide +kernel
theorem dL_act_713 : decode cL_act 713 = .ok (.iconst 4, 1) := by decide +kernel
theorem dL_act_714 : decode cL_act 714 = .ok (.ishr, 1) := by decide +kernel
theorem dL_act_715 : decode cL_act 715 = .ok (.iconst 2, 1) := by decide +kernel
theorem dL_act_716 : decode cL_act 716 = .ok (.invokestatic 71, 3) := by decide +kernel
theorem dL_act_719 : decode cL_act 719 = .ok (.iadd, 1) := by decide +kernel
theorem dL_act_720 : decode cL_act 720 = .ok (.iload_n 2, 1) := by decide +kernel
theorem dL_act_721 : decode cL_act 721 = .ok (.bipush 6, 2) := by decide +kernel
theorem dL_act_723 : decode cL_act 723 = .ok (.ishr, 1) := by decide +kernel
theorem dL_act_724 : decode cL_act 724 = .ok (.iconst 3, 1) := by decide +kernel
theorem dL_act_725 : decode cL_act 725 = .ok (.invokestatic 71, 3) := by decide +kernel
theorem dL_act_728 : decode cL_act 728 = .ok (.ifCond .ne 7, 3) := by decide +kernel
theorem dL_act_731 : decode cL_act 731 = .ok (.iconst (-1), 1) := by decide +kernel
theorem dL_act_732 : decode cL_act 732 = .ok (.goto 4, 3) := by decide +kernel
theorem dL_act_735 : decode cL_act 735 = .ok (.iconst 1, 1) := by decide +kernel
theorem dL_act_736 : decode cL_act 736 = .ok (.invokestatic 110, 3) := by decide +kernel
theorem dL_act_739 : decode cL_act 739 = .ok (.ireturn, 1) := by decide +kernel
theorem dL_law_0 : decode cL_law 0 = .ok (.new 11, 3) := by decide +kernel
theorem dL_law_3 : decode cL_law 3 = .ok (.dup, 1) := by decide +kernel
theorem dL_law_4 : decode cL_law 4 = .ok (.invokespecial 116, 3) := by decide +kernel
theorem dL_law_7 : decode cL_law 7 = .ok (.astore_n 1, 1) := by decide +kernel
theorem dL_law_8 : decode cL_law 8 = .ok (.aload_n 1, 1) := by decide +kernel
theorem dL_law_9 : decode cL_law 9 = .ok (.invokestatic 117, 3) := by decide +kernel
theorem dL_law_12 : decode cL_law 12 = .ok (.ifCond .eq 35, 3) := by decide +kernel
theorem dL_law_15 : decode cL_law 15 = .ok (.aload_n 1, 1) := by decide +kernel
theorem dL_law_16 : decode cL_law 16 = .ok (.invokestatic 121, 3) := by decide +kernel
theorem dL_law_19 : decode cL_law 19 = .ok (.ifCond .eq 28, 3) := by decide +kernel
theorem dL_law_22 : decode cL_law 22 = .ok (.aload_n 1, 1) := by decide +kernel
theorem dL_law_23 : decode cL_law 23 = .ok (.aload_n 0, 1) := by decide +kernel
theorem dL_law_24 : decode cL_law 24 = .ok (.iconst 0, 1) := by decide +kernel
theorem dL_law_25 : decode cL_law 25 = .ok (.invokestatic 124, 3) := by decide +kernel
theorem dL_law_28 : decode cL_law 28 = .ok (.aload_n 0, 1) := by decide +kernel
theorem dL_law_29 : decode cL_law 29 = .ok (.iconst 1, 1) := by decide +kernel
theorem dL_law_30 : decode cL_law 30 = .ok (.invokestatic 124, 3) := by decide +kernel
theorem dL_law_33 : decode cL_law 33 = .ok (.invokestatic 103, 3) := by decide +kernel
theorem dL_law_36 : decode cL_law 36 = .ok (.ifCond .eq 11, 3) := by decide +kernel
theorem dL_law_39 : decode cL_law 39 = .ok (.aload_n 1, 1) := by decide +kernel
theorem dL_law_40 : decode cL_law 40 = .ok (.iconst 0, 1) := by decide +kernel
theorem dL_law_41 : decode cL_law 41 = .ok (.invokevirtual 77, 3) := by decide +kernel
theorem dL_law_44 : decode cL_law 44 = .ok (.ifCond .ge 5, 3) := by decide +kernel
theorem dL_law_47 : decode cL_law 47 = .ok (.iconst 0, 1) := by decide +kernel
theorem dL_law_48 : decode cL_law 48 = .ok (.ireturn, 1) := by decide +kernel
theorem dL_law_49 : decode cL_law 49 = .ok (.iconst 0, 1) := by decide +kernel
theorem dL_law_50 : decode cL_law 50 = .ok (.istore_n 2, 1) := by decide +kernel
theorem dL_law_51 : decode cL_law 51 = .ok (.iload_n 2, 1) := by decide +kernel
theorem dL_law_52 : decode cL_law 52 = .ok (.bipush 40, 2) := by decide +kernel
theorem dL_law_54 : decode cL_law 54 = .ok (.if_icmp .ge 48, 3) := by decide +kernel
theorem dL_law_57 : decode cL_law 57 = .ok (.aload_n 1, 1) := by decide +kernel
theorem dL_law_58 : decode cL_law 58 = .ok (.aload_n 0, 1) := by decide +kernel
theorem dL_law_59 : decode cL_law 59 = .ok (.iconst 2, 1) := by decide +kernel
theorem dL_law_60 : decode cL_law 60 = .ok (.iload_n 2, 1) := by decide +kernel
theorem dL_law_61 : decode cL_law 61 = .ok (.imul, 1) := by decide +kernel
theorem dL_law_62 : decode cL_law 62 = .ok (.invokestatic 124, 3) := by decide +kernel
theorem dL_law_65 : decode cL_law 65 = .ok (.aload_n 0, 1) := by decide +kernel
theorem dL_law_66 : decode cL_law 66 = .ok (.iconst 2, 1) := by decide +kernel
theorem dL_law_67 : decode cL_law 67 = .ok (.iload_n 2, 1) := by decide +kernel
theorem dL_law_68 : decode cL_law 68 = .ok (.imul, 1) := by decide +kernel
theorem dL_law_69 : decode cL_law 69 = .ok (.iconst 1, 1) := by decide +kernel
theorem dL_law_70 : decode cL_law 70 = .ok (.iadd, 1) := by decide +kernel
theorem dL_law_71 : decode cL_law 71 = .ok (.invokestatic 124, 3) := by decide +kernel
theorem dL_law_74 : decode cL_law 74 = .ok (.invokestatic 128, 3) := by decide +kernel
theorem dL_law_77 : decode cL_law 77 = .ok (.ifCond .eq 17, 3) := by decide +kernel
theorem dL_law_80 : decode cL_law 80 = .ok (.aload_n 1, 1) := by decide +kernel
theorem dL_law_81 : decode cL_law 81 = .ok (.invokestatic 117, 3) := by decide +kernel
theorem dL_law_84 : decode cL_law 84 = .ok (.ifCond .eq 10, 3) := by decide +kernel
theorem dL_law_87 : decode cL_law 87 = .ok (.aload_n 1, 1) := by decide +kernel
theorem dL_law_88 : decode cL_law 88 = .ok (.invokestatic 121, 3) := by decide +kernel
theorem dL_law_91 : decode cL_law 91 = .ok (.ifCond .ne 5, 3) := by decide +kernel
theorem dL_law_94 : decode cL_law 94 = .ok (.iconst 0, 1) := by decide +kernel
theorem dL_law_95 : decode cL_law 95 = .ok (.ireturn, 1) := by decide +kernel
theorem dL_law_96 : decode cL_law 96 = .ok (.iinc 2 1, 3) := by decide +kernel
theorem dL_law_99 : decode cL_law 99 = .ok (.goto (-48), 3) := by decide +kernel
theorem dL_law_102 : decode cL_law 102 = .ok (.aload_n 1, 1) := by decide +kernel
theorem dL_law_103 : decode cL_law 103 = .ok (.aload_n 0, 1) := by decide +kernel
theorem dL_law_104 : decode cL_law 104 = .ok (.bipush 80, 2) := by decide +kernel
theorem dL_law_106 : decode cL_law 106 = .ok (.invokestatic 124, 3) := by decide +kernel
theorem dL_law_109 : decode cL_law 109 = .ok (.aload_n 0, 1) := by decide +kernel
theorem dL_law_110 : decode cL_law 110 = .ok (.bipush 81, 2) := by decide +kernel
theorem dL_law_112 : decode cL_law 112 = .ok (.invokestatic 124, 3) := by decide +kernel
theorem dL_law_115 : decode cL_law 115 = .ok (.invokestatic 103, 3) := by decide +kernel
theorem dL_law_118 : decode cL_law 118 = .ok (.ireturn, 1) := by decide +kernel
