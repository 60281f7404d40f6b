theorem dX0_init_0 : decode cX0_init 0 = .ok (.aload_n 0, 1) := by decide +kernel
theorem dX0_init_1 : decode cX0_init 1 = .ok (.invokespecial 3, 3) := by decide +kernel
theorem dX0_init_4 : decode cX0_init 4 = .ok (.aload_n 0, 1) := by decide +kernel
theorem dX0_init_5 : decode cX0_init 5 = .ok (.bipush 60, 2) := by decide +kernel
theorem dX0_init_7 : decode cX0_init 7 = .ok (.newarray .int, 2) := by decide +kernel
theorem dX0_init_9 : decode cX0_init 9 = .ok (.putfield 9, 3) := by decide +kernel
theorem dX0_init_12 : decode cX0_init 12 = .ok (.aload_n 0, 1) := by decide +kernel
theorem dX0_init_13 : decode cX0_init 13 = .ok (.iconst 0, 1) := by decide +kernel
theorem dX0_init_14 : decode cX0_init 14 = .ok (.putfield 15, 3) := by decide +kernel
theorem dX0_init_17 : decode cX0_init 17 = .ok (.return_, 1) := by decide +kernel
theorem dX0_hasLetterAt_0 : decode cX0_hasLetterAt 0 = .ok (.iload_n 1, 1) := by decide +kernel
theorem dX0_hasLetterAt_1 : decode cX0_hasLetterAt 1 = .ok (.ifCond .lt 37, 3) := by decide +kernel
theorem dX0_hasLetterAt_4 : decode cX0_hasLetterAt 4 = .ok (.iload_n 1, 1) := by decide +kernel
theorem dX0_hasLetterAt_5 : decode cX0_hasLetterAt 5 = .ok (.aload_n 0, 1) := by decide +kernel
theorem dX0_hasLetterAt_6 : decode cX0_hasLetterAt 6 = .ok (.getfield 15, 3) := by decide +kernel
theorem dX0_hasLetterAt_9 : decode cX0_hasLetterAt 9 = .ok (.if_icmp .ge 29, 3) := by decide +kernel
theorem dX0_hasLetterAt_12 : decode cX0_hasLetterAt 12 = .ok (.aload_n 0, 1) := by decide +kernel
theorem dX0_hasLetterAt_13 : decode cX0_hasLetterAt 13 = .ok (.getfield 9, 3) := by decide +kernel
theorem dX0_hasLetterAt_16 : decode cX0_hasLetterAt 16 = .ok (.iload_n 1, 1) := by decide +kernel
theorem dX0_hasLetterAt_17 : decode cX0_hasLetterAt 17 = .ok (.iaload, 1) := by decide +kernel
theorem dX0_hasLetterAt_18 : decode cX0_hasLetterAt 18 = .ok (.bipush 97, 2) := by decide +kernel
theorem dX0_hasLetterAt_20 : decode cX0_hasLetterAt 20 = .ok (.if_icmp .lt 18, 3) := by decide +kernel
theorem dX0_hasLetterAt_23 : decode cX0_hasLetterAt 23 = .ok (.aload_n 0, 1) := by decide +kernel
theorem dX0_hasLetterAt_24 : decode cX0_hasLetterAt 24 = .ok (.getfield 9, 3) := by decide +kernel
theorem dX0_hasLetterAt_27 : decode cX0_hasLetterAt 27 = .ok (.iload_n 1, 1) := by decide +kernel
theorem dX0_hasLetterAt_28 : decode cX0_hasLetterAt 28 = .ok (.iaload, 1) := by decide +kernel
theorem dX0_hasLetterAt_29 : decode cX0_hasLetterAt 29 = .ok (.bipush 107, 2) := by decide +kernel
theorem dX0_hasLetterAt_31 : decode cX0_hasLetterAt 31 = .ok (.if_icmp .ge 7, 3) := by decide +kernel
theorem dX0_hasLetterAt_34 : decode cX0_hasLetterAt 34 = .ok (.iconst 1, 1) := by decide +kernel
theorem dX0_hasLetterAt_35 : decode cX0_hasLetterAt 35 = .ok (.goto 4, 3) := by decide +kernel
theorem dX0_hasLetterAt_38 : decode cX0_hasLetterAt 38 = .ok (.iconst 0, 1) := by decide +kernel
theorem dX0_hasLetterAt_39 : decode cX0_hasLetterAt 39 = .ok (.ireturn, 1) := by decide +kernel
theorem dX0_hasPairAt_0 : decode cX0_hasPairAt 0 = .ok (.aload_n 0, 1) := by decide +kernel
theorem dX0_hasPairAt_1 : decode cX0_hasPairAt 1 = .ok (.iload_n 1, 1) := by decide +kernel
theorem dX0_hasPairAt_2 : decode cX0_hasPairAt 2 = .ok (.invokevirtual 19, 3) := by decide +kernel
theorem dX0_hasPairAt_5 : decode cX0_hasPairAt 5 = .ok (.ifCond .eq 17, 3) := by decide +kernel
theorem dX0_hasPairAt_8 : decode cX0_hasPairAt 8 = .ok (.aload_n 0, 1) := by decide +kernel
theorem dX0_hasPairAt_9 : decode cX0_hasPairAt 9 = .ok (.iload_n 1, 1) := by decide +kernel
theorem dX0_hasPairAt_10 : decode cX0_hasPairAt 10 = .ok (.iconst 1, 1) := by decide +kernel
theorem dX0_hasPairAt_11 : decode cX0_hasPairAt 11 = .ok (.iadd, 1) := by decide +kernel
theorem dX0_hasPairAt_12 : decode cX0_hasPairAt 12 = .ok (.invokevirtual 19, 3) := by decide +kernel
theorem dX0_hasPairAt_15 : decode cX0_hasPairAt 15 = .ok (.ifCond .eq 7, 3) := by decide +kernel
theorem dX0_hasPairAt_18 : decode cX0_hasPairAt 18 = .ok (.iconst 1, 1) := by decide +kernel
theorem dX0_hasPairAt_19 : decode cX0_hasPairAt 19 = .ok (.goto 4, 3) := by decide +kernel
theorem dX0_hasPairAt_22 : decode cX0_hasPairAt 22 = .ok (.iconst 0, 1) := by decide +kernel
theorem dX0_hasPairAt_23 : decode cX0_hasPairAt 23 = .ok (.ireturn, 1) := by decide +kernel
theorem dX0_letterAt_0 : decode cX0_letterAt 0 = .ok (.aload_n 0, 1) := by decide +kernel
theorem dX0_letterAt_1 : decode cX0_letterAt 1 = .ok (.getfield 9, 3) := by decide +kernel
theorem dX0_letterAt_4 : decode cX0_letterAt 4 = .ok (.iload_n 1, 1) := by decide +kernel
theorem dX0_letterAt_5 : decode cX0_letterAt 5 = .ok (.iaload, 1) := by decide +kernel
theorem dX0_letterAt_6 : decode cX0_letterAt 6 = .ok (.bipush 97, 2) := by decide +kernel
theorem dX0_letterAt_8 : decode cX0_letterAt 8 = .ok (.isub, 1) := by decide +kernel
theorem dX0_letterAt_9 : decode cX0_letterAt 9 = .ok (.ireturn, 1) := by decide +kernel
theorem dX0_pairAt_0 : decode cX0_pairAt 0 = .ok (.bipush 10, 2) := by decide +kernel
theorem dX0_pairAt_2 : decode cX0_pairAt 2 = .ok (.aload_n 0, 1) := by decide +kernel
theorem dX0_pairAt_3 : decode cX0_pairAt 3 = .ok (.iload_n 1, 1) := by decide +kernel
theorem dX0_pairAt_4 : decode cX0_pairAt 4 = .ok (.invokevirtual 23, 3) := by decide +kernel
theorem dX0_pairAt_7 : decode cX0_pairAt 7 = .ok (.imul, 1) := by decide +kernel
theorem dX0_pairAt_8 : decode cX0_pairAt 8 = .ok (.aload_n 0, 1) := by decide +kernel
theorem dX0_pairAt_9 : decode cX0_pairAt 9 = .ok (.iload_n 1, 1) := by decide +kernel
theorem dX0_pairAt_10 : decode cX0_pairAt 10 = .ok (.iconst 1, 1) := by decide +kernel
theorem dX0_pairAt_11 : decode cX0_pairAt 11 = .ok (.iadd, 1) := by decide +kernel
theorem dX0_pairAt_12 : decode cX0_pairAt 12 = .ok (.invokevirtual 23, 3) := by decide +kernel
theorem dX0_pairAt_15 : decode cX0_pairAt 15 = .ok (.iadd, 1) := by decide +kernel
theorem dX0_pairAt_16 : decode cX0_pairAt 16 = .ok (.ireturn, 1) := by decide +kernel
theorem dX0_firstWrongPlace_0 : decode cX0_firstWrongPlace 0 = .ok (.iconst 0, 1) := by decide +kernel
theorem dX0_firstWrongPlace_1 : decode cX0_firstWrongPlace 1 = .ok (.istore_n 1, 1) := by decide +kernel
theorem dX0_firstWrongPlace_2 : decode cX0_firstWrongPlace 2 = .ok (.iload_n 1, 1) := by decide +kernel
theorem dX0_firstWrongPlace_3 : decode cX0_firstWrongPlace 3 = .ok (.aload_n 0, 1) := by decide +kernel
theorem dX0_firstWrongPlace_4 : decode cX0_firstWrongPlace 4 = .ok (.getfield 15, 3) := by decide +kernel
theorem dX0_firstWrongPlace_7 : decode cX0_firstWrongPlace 7 = .ok (.if_icmp .ge 50, 3) := by decide +kernel
theorem dX0_firstWrongPlace_10 : decode cX0_firstWrongPlace 10 = .ok (.aload_n 0, 1) := by decide +kernel
theorem dX0_firstWrongPlace_11 : decode cX0_firstWrongPlace 11 = .ok (.getfield 9, 3) := by decide +kernel
theorem dX0_firstWrongPlace_14 : decode cX0_firstWrongPlace 14 = .ok (.iload_n 1, 1) := by decide +kernel
theorem dX0_firstWrongPlace_15 : decode cX0_firstWrongPlace 15 = .ok (.iaload, 1) := by decide +kernel
theorem dX0_firstWrongPlace_16 : decode cX0_firstWrongPlace 16 = .ok (.bipush 46, 2) := by decide +kernel
theorem dX0_firstWrongPlace_18 : decode cX0_firstWrongPlace 18 = .ok (.if_icmp .ne 17, 3) := by decide +kernel
theorem dX0_firstWrongPlace_21 : decode cX0_firstWrongPlace 21 = .ok (.aload_n 0, 1) := by decide +kernel
theorem dX0_firstWrongPlace_22 : decode cX0_firstWrongPlace 22 = .ok (.iload_n 1, 1) := by decide +kernel
theorem dX0_firstWrongPlace_23 : decode cX0_firstWrongPlace 23 = .ok (.iconst 1, 1) := by decide +kernel
theorem dX0_firstWrongPlace_24 : decode cX0_firstWrongPlace 24 = .ok (.isub, 1) := by decide +kernel
theorem dX0_firstWrongPlace_25 : decode cX0_firstWrongPlace 25 = .ok (.invokevirtual 19, 3) := by decide +kernel
theorem dX0_firstWrongPlace_28 : decode cX0_firstWrongPlace 28 = .ok (.ifCond .eq 7, 3) := by decide +kernel
theorem dX0_firstWrongPlace_31 : decode cX0_firstWrongPlace 31 = .ok (.iconst 1, 1) := by decide +kernel
theorem dX0_firstWrongPlace_32 : decode cX0_firstWrongPlace 32 = .ok (.goto 4, 3) := by decide +kernel
theorem dX0_firstWrongPlace_35 : decode cX0_firstWrongPlace 35 = .ok (.iconst 0, 1) := by decide +kernel
theorem dX0_firstWrongPlace_36 : decode cX0_firstWrongPlace 36 = .ok (.istore_n 2, 1) := by decide +kernel
theorem dX0_firstWrongPlace_37 : decode cX0_firstWrongPlace 37 = .ok (.aload_n 0, 1) := by decide +kernel
theorem dX0_firstWrongPlace_38 : decode cX0_firstWrongPlace 38 = .ok (.iload_n 1, 1) := by decide +kernel
theorem dX0_firstWrongPlace_39 : decode cX0_firstWrongPlace 39 = .ok (.invokevirtual 19, 3) := by decide +kernel
theorem dX0_firstWrongPlace_42 : decode cX0_firstWrongPlace 42 = .ok (.ifCond .ne 9, 3) := by decide +kernel
theorem dX0_firstWrongPlace_45 : decode cX0_firstWrongPlace 45 = .ok (.iload_n 2, 1) := by decide +kernel
theorem dX0_firstWrongPlace_46 : decode cX0_firstWrongPlace 46 = .ok (.ifCond .ne 5, 3) := by decide +kernel
theorem dX0_firstWrongPlace_49 : decode cX0_firstWrongPlace 49 = .ok (.iload_n 1, 1) := by decide +kernel
theorem dX0_firstWrongPlace_50 : decode cX0_firstWrongPlace 50 = .ok (.ireturn, 1) := by decide +kernel
theorem dX0_firstWrongPlace_51 : decode cX0_firstWrongPlace 51 = .ok (.iinc 1 1, 3) := by decide +kernel
theorem dX0_firstWrongPlace_54 : decode cX0_firstWrongPlace 54 = .ok (.goto (-52), 3) := by decide +kernel
theorem dX0_firstWrongPlace_57 : decode cX0_firstWrongPlace 57 = .ok (.aload_n 0, 1) := by decide +kernel
theorem dX0_firstWrongPlace_58 : decode cX0_firstWrongPlace 58 = .ok (.getfield 15, 3) := by decide +kernel
theorem dX0_firstWrongPlace_61 : decode cX0_firstWrongPlace 61 = .ok (.ireturn, 1) := by decide +kernel
theorem dX0_tellsText_0 : decode cX0_tellsText 0 = .ok (.aload_n 0, 1) := by decide +kernel
theorem dX0_tellsText_1 : decode cX0_tellsText 1 = .ok (.invokevirtual 27, 3) := by decide +kernel
theorem dX0_tellsText_4 : decode cX0_tellsText 4 = .ok (.aload_n 0, 1) := by decide +kernel
theorem dX0_tellsText_5 : decode cX0_tellsText 5 = .ok (.getfield 15, 3) := by decide +kernel
theorem dX0_tellsText_8 : decode cX0_tellsText 8 = .ok (.if_icmp .ne 20, 3) := by decide +kernel
theorem dX0_tellsText_11 : decode cX0_tellsText 11 = .ok (.aload_n 0, 1) := by decide +kernel
theorem dX0_tellsText_12 : decode cX0_tellsText 12 = .ok (.aload_n 0, 1) := by decide +kernel
theorem dX0_tellsText_13 : decode cX0_tellsText 13 = .ok (.getfield 15, 3) := by decide +kernel
theorem dX0_tellsText_16 : decode cX0_tellsText 16 = .ok (.iconst 1, 1) := by decide +kernel
theorem dX0_tellsText_17 : decode cX0_tellsText 17 = .ok (.isub, 1) := by decide +kernel
theorem dX0_tellsText_18 : decode cX0_tellsText 18 = .ok (.invokevirtual 19, 3) := by decide +kernel
theorem dX0_tellsText_21 : decode cX0_tellsText 21 = .ok (.ifCond .eq 7, 3) := by decide +kernel
theorem dX0_tellsText_24 : decode cX0_tellsText 24 = .ok (.iconst 1, 1) := by decide +kernel
theorem dX0_tellsText_25 : decode cX0_tellsText 25 = .ok (.goto 4, 3) := by decide +kernel
theorem dX0_tellsText_28 : decode cX0_tellsText 28 = .ok (.iconst 0, 1) := by decide +kernel
theorem dX0_tellsText_29 : decode cX0_tellsText 29 = .ok (.ireturn, 1) := by decide +kernel
theorem dX1_init_0 : decode cX1_init 0 = .ok (.aload_n 0, 1) := by decide +kernel
theorem dX1_init_1 : decode cX1_init 1 = .ok (.invokespecial 3, 3) := by decide +kernel
theorem dX1_init_4 : decode cX1_init 4 = .ok (.aload_n 0, 1) := by decide +kernel
theorem dX1_init_5 : decode cX1_init 5 = .ok (.bipush 10, 2) := by decide +kernel
theorem dX1_init_7 : decode cX1_init 7 = .ok (.newarray .int, 2) := by decide +kernel
theorem dX1_init_9 : decode cX1_init 9 = .ok (.putfield 9, 3) := by decide +kernel
theorem dX1_init_12 : decode cX1_init 12 = .ok (.aload_n 0, 1) := by decide +kernel
theorem dX1_init_13 : decode cX1_init 13 = .ok (.bipush 100, 2) := by decide +kernel
theorem dX1_init_15 : decode cX1_init 15 = .ok (.newarray .int, 2) := by decide +kernel
theorem dX1_init_17 : decode cX1_init 17 = .ok (.putfield 15, 3) := by decide +kernel
theorem dX1_init_20 : decode cX1_init 20 = .ok (.aload_n 0, 1) := by decide +kernel
theorem dX1_init_21 : decode cX1_init 21 = .ok (.bipush 61, 2) := by decide +kernel
theorem dX1_init_23 : decode cX1_init 23 = .ok (.newarray .int, 2) := by decide +kernel
theorem dX1_init_25 : decode cX1_init 25 = .ok (.putfield 18, 3) := by decide +kernel
theorem dX1_init_28 : decode cX1_init 28 = .ok (.aload_n 0, 1) := by decide +kernel
theorem dX1_init_29 : decode cX1_init 29 = .ok (.bipush 62, 2) := by decide +kernel
theorem dX1_init_31 : decode cX1_init 31 = .ok (.newarray .int, 2) := by decide +kernel
theorem dX1_init_33 : decode cX1_init 33 = .ok (.putfield 21, 3) := by decide +kernel
theorem dX1_init_36 : decode cX1_init 36 = .ok (.aload_n 0, 1) := by decide +kernel
theorem dX1_init_37 : decode cX1_init 37 = .ok (.iconst 0, 1) := by decide +kernel
theorem dX1_init_38 : decode cX1_init 38 = .ok (.putfield 24, 3) := by decide +kernel
theorem dX1_init_41 : decode cX1_init 41 = .ok (.return_, 1) := by decide +kernel
theorem dX1_widthAt_0 : decode cX1_widthAt 0 = .ok (.aload_n 2, 1) := by decide +kernel
theorem dX1_widthAt_1 : decode cX1_widthAt 1 = .ok (.iload_n 3, 1) := by decide +kernel
theorem dX1_widthAt_2 : decode cX1_widthAt 2 = .ok (.invokevirtual 28, 3) := by decide +kernel
theorem dX1_widthAt_5 : decode cX1_widthAt 5 = .ok (.ifCond .ne 10, 3) := by decide +kernel
theorem dX1_widthAt_8 : decode cX1_widthAt 8 = .ok (.aload_n 1, 1) := by decide +kernel
theorem dX1_widthAt_9 : decode cX1_widthAt 9 = .ok (.getfield 34, 3) := by decide +kernel
theorem dX1_widthAt_12 : decode cX1_widthAt 12 = .ok (.iconst 2, 1) := by decide +kernel
theorem dX1_widthAt_13 : decode cX1_widthAt 13 = .ok (.iaload, 1) := by decide +kernel
theorem dX1_widthAt_14 : decode cX1_widthAt 14 = .ok (.ireturn, 1) := by decide +kernel
theorem dX1_widthAt_15 : decode cX1_widthAt 15 = .ok (.aload_n 1, 1) := by decide +kernel
theorem dX1_widthAt_16 : decode cX1_widthAt 16 = .ok (.getfield 39, 3) := by decide +kernel
theorem dX1_widthAt_19 : decode cX1_widthAt 19 = .ok (.aload_n 2, 1) := by decide +kernel
theorem dX1_widthAt_20 : decode cX1_widthAt 20 = .ok (.iload_n 3, 1) := by decide +kernel
theorem dX1_widthAt_21 : decode cX1_widthAt 21 = .ok (.invokevirtual 42, 3) := by decide +kernel
theorem dX1_widthAt_24 : decode cX1_widthAt 24 = .ok (.iaload, 1) := by decide +kernel
theorem dX1_widthAt_25 : decode cX1_widthAt 25 = .ok (.istore 4, 2) := by decide +kernel
theorem dX1_widthAt_27 : decode cX1_widthAt 27 = .ok (.aload_n 2, 1) := by decide +kernel
theorem dX1_widthAt_28 : decode cX1_widthAt 28 = .ok (.iload_n 3, 1) := by decide +kernel
theorem dX1_widthAt_29 : decode cX1_widthAt 29 = .ok (.invokevirtual 46, 3) := by decide +kernel
theorem dX1_widthAt_32 : decode cX1_widthAt 32 = .ok (.ifCond .eq 21, 3) := by decide +kernel
theorem dX1_widthAt_35 : decode cX1_widthAt 35 = .ok (.iload 4, 2) := by decide +kernel
theorem dX1_widthAt_37 : decode cX1_widthAt 37 = .ok (.aload_n 1, 1) := by decide +kernel
theorem dX1_widthAt_38 : decode cX1_widthAt 38 = .ok (.getfield 49, 3) := by decide +kernel
theorem dX1_widthAt_41 : decode cX1_widthAt 41 = .ok (.aload_n 1, 1) := by decide +kernel
theorem dX1_widthAt_42 : decode cX1_widthAt 42 = .ok (.aload_n 2, 1) := by decide +kernel
theorem dX1_widthAt_43 : decode cX1_widthAt 43 = .ok (.iload_n 3, 1) := by decide +kernel
theorem dX1_widthAt_44 : decode cX1_widthAt 44 = .ok (.invokevirtual 53, 3) := by decide +kernel
theorem dX1_widthAt_47 : decode cX1_widthAt 47 = .ok (.invokevirtual 56, 3) := by decide +kernel
theorem dX1_widthAt_50 : decode cX1_widthAt 50 = .ok (.iadd, 1) := by decide +kernel
theorem dX1_widthAt_51 : decode cX1_widthAt 51 = .ok (.istore 4, 2) := by decide +kernel
theorem dX1_widthAt_53 : decode cX1_widthAt 53 = .ok (.iload 4, 2) := by decide +kernel
theorem dX1_widthAt_55 : decode cX1_widthAt 55 = .ok (.ireturn, 1) := by decide +kernel
theorem dX1_widthByPlaces_0 : decode cX1_widthByPlaces 0 = .ok (.iconst 0, 1) := by decide +kernel
theorem dX1_widthByPlaces_1 : decode cX1_widthByPlaces 1 = .ok (.istore_n 3, 1) := by decide +kernel
theorem dX1_widthByPlaces_2 : decode cX1_widthByPlaces 2 = .ok (.iconst 0, 1) := by decide +kernel
theorem dX1_widthByPlaces_3 : decode cX1_widthByPlaces 3 = .ok (.istore 4, 2) := by decide +kernel
theorem dX1_widthByPlaces_5 : decode cX1_widthByPlaces 5 = .ok (.iload 4, 2) := by decide +kernel
theorem dX1_widthByPlaces_7 : decode cX1_widthByPlaces 7 = .ok (.aload_n 2, 1) := by decide +kernel
theorem dX1_widthByPlaces_8 : decode cX1_widthByPlaces 8 = .ok (.getfield 62, 3) := by decide +kernel
theorem dX1_widthByPlaces_11 : decode cX1_widthByPlaces 11 = .ok (.if_icmp .ge 20, 3) := by decide +kernel
theorem dX1_widthByPlaces_14 : decode cX1_widthByPlaces 14 = .ok (.iload_n 3, 1) := by decide +kernel
theorem dX1_widthByPlaces_15 : decode cX1_widthByPlaces 15 = .ok (.aload_n 0, 1) := by decide +kernel
theorem dX1_widthByPlaces_16 : decode cX1_widthByPlaces 16 = .ok (.aload_n 1, 1) := by decide +kernel
theorem dX1_widthByPlaces_17 : decode cX1_widthByPlaces 17 = .ok (.aload_n 2, 1) := by decide +kernel
theorem dX1_widthByPlaces_18 : decode cX1_widthByPlaces 18 = .ok (.iload 4, 2) := by decide +kernel
theorem dX1_widthByPlaces_20 : decode cX1_widthByPlaces 20 = .ok (.invokevirtual 65, 3) := by decide +kernel
theorem dX1_widthByPlaces_23 : decode cX1_widthByPlaces 23 = .ok (.iadd, 1) := by decide +kernel
theorem dX1_widthByPlaces_24 : decode cX1_widthByPlaces 24 = .ok (.istore_n 3, 1) := by decide +kernel
theorem dX1_widthByPlaces_25 : decode cX1_widthByPlaces 25 = .ok (.iinc 4 1, 3) := by decide +kernel
theorem dX1_widthByPlaces_28 : decode cX1_widthByPlaces 28 = .ok (.goto (-23), 3) := by decide +kernel
theorem dX1_widthByPlaces_31 : decode cX1_widthByPlaces 31 = .ok (.iload_n 3, 1) := by decide +kernel
theorem dX1_widthByPlaces_32 : decode cX1_widthByPlaces 32 = .ok (.ireturn, 1) := by decide +kernel
theorem dX1_widthByCounts_0 : decode cX1_widthByCounts 0 = .ok (.aload_n 0, 1) := by decide +kernel
theorem dX1_widthByCounts_1 : decode cX1_widthByCounts 1 = .ok (.getfield 9, 3) := by decide +kernel
theorem dX1_widthByCounts_4 : decode cX1_widthByCounts 4 = .ok (.iconst 0, 1) := by decide +kernel
theorem dX1_widthByCounts_5 : decode cX1_widthByCounts 5 = .ok (.invokestatic 69, 3) := by decide +kernel
theorem dX1_widthByCounts_8 : decode cX1_widthByCounts 8 = .ok (.aload_n 0, 1) := by decide +kernel
theorem dX1_widthByCounts_9 : decode cX1_widthByCounts 9 = .ok (.getfield 15, 3) := by decide +kernel
theorem dX1_widthByCounts_12 : decode cX1_widthByCounts 12 = .ok (.iconst 0, 1) := by decide +kernel
theorem dX1_widthByCounts_13 : decode cX1_widthByCounts 13 = .ok (.invokestatic 69, 3) := by decide +kernel
theorem dX1_widthByCounts_16 : decode cX1_widthByCounts 16 = .ok (.iconst 0, 1) := by decide +kernel
theorem dX1_widthByCounts_17 : decode cX1_widthByCounts 17 = .ok (.istore_n 3, 1) := by decide +kernel
theorem dX1_widthByCounts_18 : decode cX1_widthByCounts 18 = .ok (.iconst 0, 1) := by decide +kernel
theorem dX1_widthByCounts_19 : decode cX1_widthByCounts 19 = .ok (.istore 4, 2) := by decide +kernel
theorem dX1_widthByCounts_21 : decode cX1_widthByCounts 21 = .ok (.iload 4, 2) := by decide +kernel
theorem dX1_widthByCounts_23 : decode cX1_widthByCounts 23 = .ok (.aload_n 2, 1) := by decide +kernel
theorem dX1_widthByCounts_24 : decode cX1_widthByCounts 24 = .ok (.getfield 62, 3) := by decide +kernel
theorem dX1_widthByCounts_27 : decode cX1_widthByCounts 27 = .ok (.if_icmp .ge 63, 3) := by decide +kernel
theorem dX1_widthByCounts_30 : decode cX1_widthByCounts 30 = .ok (.aload_n 2, 1) := by decide +kernel
theorem dX1_widthByCounts_31 : decode cX1_widthByCounts 31 = .ok (.iload 4, 2) := by decide +kernel
theorem dX1_widthByCounts_33 : decode cX1_widthByCounts 33 = .ok (.invokevirtual 28, 3) := by decide +kernel
theorem dX1_widthByCounts_36 : decode cX1_widthByCounts 36 = .ok (.ifCond .eq 21, 3) := by decide +kernel
theorem dX1_widthByCounts_39 : decode cX1_widthByCounts 39 = .ok (.aload_n 0, 1) := by decide +kernel
theorem dX1_widthByCounts_40 : decode cX1_widthByCounts 40 = .ok (.getfield 9, 3) := by decide +kernel
theorem dX1_widthByCounts_43 : decode cX1_widthByCounts 43 = .ok (.aload_n 2, 1) := by decide +kernel
theorem dX1_widthByCounts_44 : decode cX1_widthByCounts 44 = .ok (.iload 4, 2) := by decide +kernel
theorem dX1_widthByCounts_46 : decode cX1_widthByCounts 46 = .ok (.invokevirtual 42, 3) := by decide +kernel
theorem dX1_widthByCounts_49 : decode cX1_widthByCounts 49 = .ok (.dup2, 1) := by decide +kernel
theorem dX1_widthByCounts_50 : decode cX1_widthByCounts 50 = .ok (.iaload, 1) := by decide +kernel
theorem dX1_widthByCounts_51 : decode cX1_widthByCounts 51 = .ok (.iconst 1, 1) := by decide +kernel
theorem dX1_widthByCounts_52 : decode cX1_widthByCounts 52 = .ok (.iadd, 1) := by decide +kernel
theorem dX1_widthByCounts_53 : decode cX1_widthByCounts 53 = .ok (.iastore, 1) := by decide +kernel
theorem dX1_widthByCounts_54 : decode cX1_widthByCounts 54 = .ok (.goto 6, 3) := by decide +kernel
theorem dX1_widthByCounts_57 : decode cX1_widthByCounts 57 = .ok (.iinc 3 1, 3) := by decide +kernel
theorem dX1_widthByCounts_60 : decode cX1_widthByCounts 60 = .ok (.aload_n 2, 1) := by decide +kernel
theorem dX1_widthByCounts_61 : decode cX1_widthByCounts 61 = .ok (.iload 4, 2) := by decide +kernel
theorem dX1_widthByCounts_63 : decode cX1_widthByCounts 63 = .ok (.invokevirtual 46, 3) := by decide +kernel
theorem dX1_widthByCounts_66 : decode cX1_widthByCounts 66 = .ok (.ifCond .eq 18, 3) := by decide +kernel
theorem dX1_widthByCounts_69 : decode cX1_widthByCounts 69 = .ok (.aload_n 0, 1) := by decide +kernel
theorem dX1_widthByCounts_70 : decode cX1_widthByCounts 70 = .ok (.getfield 15, 3) := by decide +kernel
theorem dX1_widthByCounts_73 : decode cX1_widthByCounts 73 = .ok (.aload_n 2, 1) := by decide +kernel
theorem dX1_widthByCounts_74 : decode cX1_widthByCounts 74 = .ok (.iload 4, 2) := by decide +kernel
theorem dX1_widthByCounts_76 : decode cX1_widthByCounts 76 = .ok (.invokevirtual 53, 3) := by decide +kernel
theorem dX1_widthByCounts_79 : decode cX1_widthByCounts 79 = .ok (.dup2, 1) := by decide +kernel
theorem dX1_widthByCounts_80 : decode cX1_widthByCounts 80 = .ok (.iaload, 1) := by decide +kernel
theorem dX1_widthByCounts_81 : decode cX1_widthByCounts 81 = .ok (.iconst 1, 1) := by decide +kernel
theorem dX1_widthByCounts_82 : decode cX1_widthByCounts 82 = .ok (.iadd, 1) := by decide +kernel
theorem dX1_widthByCounts_83 : decode cX1_widthByCounts 83 = .ok (.iastore, 1) := by decide +kernel
theorem dX1_widthByCounts_84 : decode cX1_widthByCounts 84 = .ok (.iinc 4 1, 3) := by decide +kernel
theorem dX1_widthByCounts_87 : decode cX1_widthByCounts 87 = .ok (.goto (-66), 3) := by decide +kernel
theorem dX1_widthByCounts_90 : decode cX1_widthByCounts 90 = .ok (.iload_n 3, 1) := by decide +kernel
theorem dX1_widthByCounts_91 : decode cX1_widthByCounts 91 = .ok (.aload_n 1, 1) := by decide +kernel
theorem dX1_widthByCounts_92 : decode cX1_widthByCounts 92 = .ok (.getfield 34, 3) := by decide +kernel
theorem dX1_widthByCounts_95 : decode cX1_widthByCounts 95 = .ok (.iconst 2, 1) := by decide +kernel
theorem dX1_widthByCounts_96 : decode cX1_widthByCounts 96 = .ok (.iaload, 1) := by decide +kernel
theorem dX1_widthByCounts_97 : decode cX1_widthByCounts 97 = .ok (.imul, 1) := by decide +kernel
theorem dX1_widthByCounts_98 : decode cX1_widthByCounts 98 = .ok (.istore 4, 2) := by decide +kernel
theorem dX1_widthByCounts_100 : decode cX1_widthByCounts 100 = .ok (.iconst 0, 1) := by decide +kernel
theorem dX1_widthByCounts_101 : decode cX1_widthByCounts 101 = .ok (.istore 5, 2) := by decide +kernel
theorem dX1_widthByCounts_103 : decode cX1_widthByCounts 103 = .ok (.iload 5, 2) := by decide +kernel
theorem dX1_widthByCounts_105 : decode cX1_widthByCounts 105 = .ok (.bipush 10, 2) := by decide +kernel
theorem dX1_widthByCounts_107 : decode cX1_widthByCounts 107 = .ok (.if_icmp .ge 29, 3) := by decide +kernel
theorem dX1_widthByCounts_110 : decode cX1_widthByCounts 110 = .ok (.iload 4, 2) := by decide +kernel
theorem dX1_widthByCounts_112 : decode cX1_widthByCounts 112 = .ok (.aload_n 0, 1) := by decide +kernel
theorem dX1_widthByCounts_113 : decode cX1_widthByCounts 113 = .ok (.getfield 9, 3) := by decide +kernel
theorem dX1_widthByCounts_116 : decode cX1_widthByCounts 116 = .ok (.iload 5, 2) := by decide +kernel
theorem dX1_widthByCounts_118 : decode cX1_widthByCounts 118 = .ok (.iaload, 1) := by decide +kernel
theorem dX1_widthByCounts_119 : decode cX1_widthByCounts 119 = .ok (.aload_n 1, 1) := by decide +kernel
theorem dX1_widthByCounts_120 : decode cX1_widthByCounts 120 = .ok (.getfield 39, 3) := by decide +kernel
theorem dX1_widthByCounts_123 : decode cX1_widthByCounts 123 = .ok (.iload 5, 2) := by decide +kernel
theorem dX1_widthByCounts_125 : decode cX1_widthByCounts 125 = .ok (.iaload, 1) := by decide +kernel
theorem dX1_widthByCounts_126 : decode cX1_widthByCounts 126 = .ok (.imul, 1) := by decide +kernel
theorem dX1_widthByCounts_127 : decode cX1_widthByCounts 127 = .ok (.iadd, 1) := by decide +kernel
theorem dX1_widthByCounts_128 : decode cX1_widthByCounts 128 = .ok (.istore 4, 2) := by decide +kernel
theorem dX1_widthByCounts_130 : decode cX1_widthByCounts 130 = .ok (.iinc 5 1, 3) := by decide +kernel
theorem dX1_widthByCounts_133 : decode cX1_widthByCounts 133 = .ok (.goto (-30), 3) := by decide +kernel
theorem dX1_widthByCounts_136 : decode cX1_widthByCounts 136 = .ok (.iconst 0, 1) := by decide +kernel
theorem dX1_widthByCounts_137 : decode cX1_widthByCounts 137 = .ok (.istore 5, 2) := by decide +kernel
theorem dX1_widthByCounts_139 : decode cX1_widthByCounts 139 = .ok (.iload 5, 2) := by decide +kernel
theorem dX1_widthByCounts_141 : decode cX1_widthByCounts 141 = .ok (.bipush 100, 2) := by decide +kernel
theorem dX1_widthByCounts_143 : decode cX1_widthByCounts 143 = .ok (.if_icmp .ge 32, 3) := by decide +kernel
theorem dX1_widthByCounts_146 : decode cX1_widthByCounts 146 = .ok (.iload 4, 2) := by decide +kernel
theorem dX1_widthByCounts_148 : decode cX1_widthByCounts 148 = .ok (.aload_n 0, 1) := by decide +kernel
theorem dX1_widthByCounts_149 : decode cX1_widthByCounts 149 = .ok (.getfield 15, 3) := by decide +kernel
theorem dX1_widthByCounts_152 : decode cX1_widthByCounts 152 = .ok (.iload 5, 2) := by decide +kernel
theorem dX1_widthByCounts_154 : decode cX1_widthByCounts 154 = .ok (.iaload, 1) := by decide +kernel
theorem dX1_widthByCounts_155 : decode cX1_widthByCounts 155 = .ok (.aload_n 1, 1) := by decide +kernel
theorem dX1_widthByCounts_156 : decode cX1_widthByCounts 156 = .ok (.getfield 49, 3) := by decide +kernel
theorem dX1_widthByCounts_159 : decode cX1_widthByCounts 159 = .ok (.aload_n 1, 1) := by decide +kernel
theorem dX1_widthByCounts_160 : decode cX1_widthByCounts 160 = .ok (.iload 5, 2) := by decide +kernel
theorem dX1_widthByCounts_162 : decode cX1_widthByCounts 162 = .ok (.invokevirtual 56, 3) := by decide +kernel
theorem dX1_widthByCounts_165 : decode cX1_widthByCounts 165 = .ok (.imul, 1) := by decide +kernel
theorem dX1_widthByCounts_166 : decode cX1_widthByCounts 166 = .ok (.iadd, 1) := by decide +kernel
theorem dX1_widthByCounts_167 : decode cX1_widthByCounts 167 = .ok (.istore 4, 2) := by decide +kernel
theorem dX1_widthByCounts_169 : decode cX1_widthByCounts 169 = .ok (.iinc 5 1, 3) := by decide +kernel
theorem dX1_widthByCounts_172 : decode cX1_widthByCounts 172 = .ok (.goto (-33), 3) := by decide +kernel
theorem dX1_widthByCounts_175 : decode cX1_widthByCounts 175 = .ok (.iload 4, 2) := by decide +kernel
theorem dX1_widthByCounts_177 : decode cX1_widthByCounts 177 = .ok (.ireturn, 1) := by decide +kernel
theorem dX1_findWords_0 : decode cX1_findWords 0 = .ok (.aload_n 0, 1) := by decide +kernel
theorem dX1_findWords_1 : decode cX1_findWords 1 = .ok (.getfield 18, 3) := by decide +kernel
theorem dX1_findWords_4 : decode cX1_findWords 4 = .ok (.iconst 0, 1) := by decide +kernel
theorem dX1_findWords_5 : decode cX1_findWords 5 = .ok (.invokestatic 69, 3) := by decide +kernel
theorem dX1_findWords_8 : decode cX1_findWords 8 = .ok (.aload_n 0, 1) := by decide +kernel
theorem dX1_findWords_9 : decode cX1_findWords 9 = .ok (.iconst 1, 1) := by decide +kernel
theorem dX1_findWords_10 : decode cX1_findWords 10 = .ok (.putfield 24, 3) := by decide +kernel
theorem dX1_findWords_13 : decode cX1_findWords 13 = .ok (.iconst 0, 1) := by decide +kernel
theorem dX1_findWords_14 : decode cX1_findWords 14 = .ok (.istore_n 3, 1) := by decide +kernel
theorem dX1_findWords_15 : decode cX1_findWords 15 = .ok (.iload_n 3, 1) := by decide +kernel
theorem dX1_findWords_16 : decode cX1_findWords 16 = .ok (.aload_n 2, 1) := by decide +kernel
theorem dX1_findWords_17 : decode cX1_findWords 17 = .ok (.getfield 62, 3) := by decide +kernel
theorem dX1_findWords_20 : decode cX1_findWords 20 = .ok (.if_icmp .ge 51, 3) := by decide +kernel
theorem dX1_findWords_23 : decode cX1_findWords 23 = .ok (.aload_n 2, 1) := by decide +kernel
theorem dX1_findWords_24 : decode cX1_findWords 24 = .ok (.iload_n 3, 1) := by decide +kernel
theorem dX1_findWords_25 : decode cX1_findWords 25 = .ok (.invokevirtual 28, 3) := by decide +kernel
theorem dX1_findWords_28 : decode cX1_findWords 28 = .ok (.ifCond .eq 27, 3) := by decide +kernel
theorem dX1_findWords_31 : decode cX1_findWords 31 = .ok (.aload_n 0, 1) := by decide +kernel
theorem dX1_findWords_32 : decode cX1_findWords 32 = .ok (.getfield 18, 3) := by decide +kernel
theorem dX1_findWords_35 : decode cX1_findWords 35 = .ok (.aload_n 0, 1) := by decide +kernel
theorem dX1_findWords_36 : decode cX1_findWords 36 = .ok (.getfield 24, 3) := by decide +kernel
theorem dX1_findWords_39 : decode cX1_findWords 39 = .ok (.iconst 1, 1) := by decide +kernel
theorem dX1_findWords_40 : decode cX1_findWords 40 = .ok (.isub, 1) := by decide +kernel
theorem dX1_findWords_41 : decode cX1_findWords 41 = .ok (.dup2, 1) := by decide +kernel
theorem dX1_findWords_42 : decode cX1_findWords 42 = .ok (.iaload, 1) := by decide +kernel
theorem dX1_findWords_43 : decode cX1_findWords 43 = .ok (.aload_n 0, 1) := by decide +kernel
theorem dX1_findWords_44 : decode cX1_findWords 44 = .ok (.aload_n 1, 1) := by decide +kernel
theorem dX1_findWords_45 : decode cX1_findWords 45 = .ok (.aload_n 2, 1) := by decide +kernel
theorem dX1_findWords_46 : decode cX1_findWords 46 = .ok (.iload_n 3, 1) := by decide +kernel
theorem dX1_findWords_47 : decode cX1_findWords 47 = .ok (.invokevirtual 65, 3) := by decide +kernel
theorem dX1_findWords_50 : decode cX1_findWords 50 = .ok (.iadd, 1) := by decide +kernel
theorem dX1_findWords_51 : decode cX1_findWords 51 = .ok (.iastore, 1) := by decide +kernel
theorem dX1_findWords_52 : decode cX1_findWords 52 = .ok (.goto 13, 3) := by decide +kernel
theorem dX1_findWords_55 : decode cX1_findWords 55 = .ok (.aload_n 0, 1) := by decide +kernel
theorem dX1_findWords_56 : decode cX1_findWords 56 = .ok (.dup, 1) := by decide +kernel
theorem dX1_findWords_57 : decode cX1_findWords 57 = .ok (.getfield 24, 3) := by decide +kernel
theorem dX1_findWords_60 : decode cX1_findWords 60 = .ok (.iconst 1, 1) := by decide +kernel
theorem dX1_findWords_61 : decode cX1_findWords 61 = .ok (.iadd, 1) := by decide +kernel
theorem dX1_findWords_62 : decode cX1_findWords 62 = .ok (.putfield 24, 3) := by decide +kernel
theorem dX1_findWords_65 : decode cX1_findWords 65 = .ok (.iinc 3 1, 3) := by decide +kernel
theorem dX1_findWords_68 : decode cX1_findWords 68 = .ok (.goto (-53), 3) := by decide +kernel
theorem dX1_findWords_71 : decode cX1_findWords 71 = .ok (.return_, 1) := by decide +kernel
theorem dX1_widestWord_0 : decode cX1_widestWord 0 = .ok (.iconst 0, 1) := by decide +kernel
theorem dX1_widestWord_1 : decode cX1_widestWord 1 = .ok (.istore_n 1, 1) := by decide +kernel
theorem dX1_widestWord_2 : decode cX1_widestWord 2 = .ok (.iconst 0, 1) := by decide +kernel
theorem dX1_widestWord_3 : decode cX1_widestWord 3 = .ok (.istore_n 2, 1) := by decide +kernel
theorem dX1_widestWord_4 : decode cX1_widestWord 4 = .ok (.iload_n 2, 1) := by decide +kernel
theorem dX1_widestWord_5 : decode cX1_widestWord 5 = .ok (.aload_n 0, 1) := by decide +kernel
theorem dX1_widestWord_6 : decode cX1_widestWord 6 = .ok (.getfield 24, 3) := by decide +kernel
theorem dX1_widestWord_9 : decode cX1_widestWord 9 = .ok (.if_icmp .ge 20, 3) := by decide +kernel
theorem dX1_widestWord_12 : decode cX1_widestWord 12 = .ok (.iload_n 1, 1) := by decide +kernel
theorem dX1_widestWord_13 : decode cX1_widestWord 13 = .ok (.aload_n 0, 1) := by decide +kernel
theorem dX1_widestWord_14 : decode cX1_widestWord 14 = .ok (.getfield 18, 3) := by decide +kernel
theorem dX1_widestWord_17 : decode cX1_widestWord 17 = .ok (.iload_n 2, 1) := by decide +kernel
theorem dX1_widestWord_18 : decode cX1_widestWord 18 = .ok (.iaload, 1) := by decide +kernel
theorem dX1_widestWord_19 : decode cX1_widestWord 19 = .ok (.invokestatic 75, 3) := by decide +kernel
theorem dX1_widestWord_22 : decode cX1_widestWord 22 = .ok (.istore_n 1, 1) := by decide +kernel
theorem dX1_widestWord_23 : decode cX1_widestWord 23 = .ok (.iinc 2 1, 3) := by decide +kernel
theorem dX1_widestWord_26 : decode cX1_widestWord 26 = .ok (.goto (-22), 3) := by decide +kernel
theorem dX1_widestWord_29 : decode cX1_widestWord 29 = .ok (.iload_n 1, 1) := by decide +kernel
theorem dX1_widestWord_30 : decode cX1_widestWord 30 = .ok (.ireturn, 1) := by decide +kernel
theorem dX1_linesByFilling_0 : decode cX1_linesByFilling 0 = .ok (.iconst 1, 1) := by decide +kernel
theorem dX1_linesByFilling_1 : decode cX1_linesByFilling 1 = .ok (.istore_n 2, 1) := by decide +kernel
theorem dX1_linesByFilling_2 : decode cX1_linesByFilling 2 = .ok (.aload_n 0, 1) := by decide +kernel
theorem dX1_linesByFilling_3 : decode cX1_linesByFilling 3 = .ok (.getfield 18, 3) := by decide +kernel
theorem dX1_linesByFilling_6 : decode cX1_linesByFilling 6 = .ok (.iconst 0, 1) := by decide +kernel
theorem dX1_linesByFilling_7 : decode cX1_linesByFilling 7 = .ok (.iaload, 1) := by decide +kernel
theorem dX1_linesByFilling_8 : decode cX1_linesByFilling 8 = .ok (.istore_n 3, 1) := by decide +kernel
theorem dX1_linesByFilling_9 : decode cX1_linesByFilling 9 = .ok (.iconst 1, 1) := by decide +kernel
theorem dX1_linesByFilling_10 : decode cX1_linesByFilling 10 = .ok (.istore 4, 2) := by decide +kernel
theorem dX1_linesByFilling_12 : decode cX1_linesByFilling 12 = .ok (.iload 4, 2) := by decide +kernel
theorem dX1_linesByFilling_14 : decode cX1_linesByFilling 14 = .ok (.aload_n 0, 1) := by decide +kernel
theorem dX1_linesByFilling_15 : decode cX1_linesByFilling 15 = .ok (.getfield 24, 3) := by decide +kernel
theorem dX1_linesByFilling_18 : decode cX1_linesByFilling 18 = .ok (.if_icmp .ge 55, 3) := by decide +kernel
theorem dX1_linesByFilling_21 : decode cX1_linesByFilling 21 = .ok (.iload_n 3, 1) := by decide +kernel
theorem dX1_linesByFilling_22 : decode cX1_linesByFilling 22 = .ok (.aload_n 1, 1) := by decide +kernel
theorem dX1_linesByFilling_23 : decode cX1_linesByFilling 23 = .ok (.getfield 34, 3) := by decide +kernel
theorem dX1_linesByFilling_26 : decode cX1_linesByFilling 26 = .ok (.iconst 2, 1) := by decide +kernel
theorem dX1_linesByFilling_27 : decode cX1_linesByFilling 27 = .ok (.iaload, 1) := by decide +kernel
theorem dX1_linesByFilling_28 : decode cX1_linesByFilling 28 = .ok (.iadd, 1) := by decide +kernel
theorem dX1_linesByFilling_29 : decode cX1_linesByFilling 29 = .ok (.aload_n 0, 1) := by decide +kernel
theorem dX1_linesByFilling_30 : decode cX1_linesByFilling 30 = .ok (.getfield 18, 3) := by decide +kernel
theorem dX1_linesByFilling_33 : decode cX1_linesByFilling 33 = .ok (.iload 4, 2) := by decide +kernel
theorem dX1_linesByFilling_35 : decode cX1_linesByFilling 35 = .ok (.iaload, 1) := by decide +kernel
theorem dX1_linesByFilling_36 : decode cX1_linesByFilling 36 = .ok (.iadd, 1) := by decide +kernel
theorem dX1_linesByFilling_37 : decode cX1_linesByFilling 37 = .ok (.istore 5, 2) := by decide +kernel
theorem dX1_linesByFilling_39 : decode cX1_linesByFilling 39 = .ok (.iload 5, 2) := by decide +kernel
theorem dX1_linesByFilling_41 : decode cX1_linesByFilling 41 = .ok (.aload_n 1, 1) := by decide +kernel
theorem dX1_linesByFilling_42 : decode cX1_linesByFilling 42 = .ok (.getfield 34, 3) := by decide +kernel
theorem dX1_linesByFilling_45 : decode cX1_linesByFilling 45 = .ok (.iconst 3, 1) := by decide +kernel
theorem dX1_linesByFilling_46 : decode cX1_linesByFilling 46 = .ok (.iaload, 1) := by decide +kernel
theorem dX1_linesByFilling_47 : decode cX1_linesByFilling 47 = .ok (.if_icmp .gt 9, 3) := by decide +kernel
theorem dX1_linesByFilling_50 : decode cX1_linesByFilling 50 = .ok (.iload 5, 2) := by decide +kernel
theorem dX1_linesByFilling_52 : decode cX1_linesByFilling 52 = .ok (.istore_n 3, 1) := by decide +kernel
theorem dX1_linesByFilling_53 : decode cX1_linesByFilling 53 = .ok (.goto 14, 3) := by decide +kernel
theorem dX1_linesByFilling_56 : decode cX1_linesByFilling 56 = .ok (.iinc 2 1, 3) := by decide +kernel
theorem dX1_linesByFilling_59 : decode cX1_linesByFilling 59 = .ok (.aload_n 0, 1) := by decide +kernel
theorem dX1_linesByFilling_60 : decode cX1_linesByFilling 60 = .ok (.getfield 18, 3) := by decide +kernel
theorem dX1_linesByFilling_63 : decode cX1_linesByFilling 63 = .ok (.iload 4, 2) := by decide +kernel
theorem dX1_linesByFilling_65 : decode cX1_linesByFilling 65 = .ok (.iaload, 1) := by decide +kernel
theorem dX1_linesByFilling_66 : decode cX1_linesByFilling 66 = .ok (.istore_n 3, 1) := by decide +kernel
theorem dX1_linesByFilling_67 : decode cX1_linesByFilling 67 = .ok (.iinc 4 1, 3) := by decide +kernel
theorem dX1_linesByFilling_70 : decode cX1_linesByFilling 70 = .ok (.goto (-58), 3) := by decide +kernel
theorem dX1_linesByFilling_73 : decode cX1_linesByFilling 73 = .ok (.iload_n 2, 1) := by decide +kernel
theorem dX1_linesByFilling_74 : decode cX1_linesByFilling 74 = .ok (.ireturn, 1) := by decide +kernel
theorem dX1_linesFromBehind_0 : decode cX1_linesFromBehind 0 = .ok (.aload_n 0, 1) := by decide +kernel
theorem dX1_linesFromBehind_1 : decode cX1_linesFromBehind 1 = .ok (.getfield 21, 3) := by decide +kernel
theorem dX1_linesFromBehind_4 : decode cX1_linesFromBehind 4 = .ok (.aload_n 0, 1) := by decide +kernel
theorem dX1_linesFromBehind_5 : decode cX1_linesFromBehind 5 = .ok (.getfield 24, 3) := by decide +kernel
theorem dX1_linesFromBehind_8 : decode cX1_linesFromBehind 8 = .ok (.iconst 0, 1) := by decide +kernel
theorem dX1_linesFromBehind_9 : decode cX1_linesFromBehind 9 = .ok (.iastore, 1) := by decide +kernel
theorem dX1_linesFromBehind_10 : decode cX1_linesFromBehind 10 = .ok (.aload_n 0, 1) := by decide +kernel
theorem dX1_linesFromBehind_11 : decode cX1_linesFromBehind 11 = .ok (.getfield 24, 3) := by decide +kernel
theorem dX1_linesFromBehind_14 : decode cX1_linesFromBehind 14 = .ok (.iconst 1, 1) := by decide +kernel
theorem dX1_linesFromBehind_15 : decode cX1_linesFromBehind 15 = .ok (.isub, 1) := by decide +kernel
theorem dX1_linesFromBehind_16 : decode cX1_linesFromBehind 16 = .ok (.istore_n 2, 1) := by decide +kernel
theorem dX1_linesFromBehind_17 : decode cX1_linesFromBehind 17 = .ok (.iload_n 2, 1) := by decide +kernel
theorem dX1_linesFromBehind_18 : decode cX1_linesFromBehind 18 = .ok (.ifCond .lt 101, 3) := by decide +kernel
theorem dX1_linesFromBehind_21 : decode cX1_linesFromBehind 21 = .ok (.iconst 1, 1) := by decide +kernel
theorem dX1_linesFromBehind_22 : decode cX1_linesFromBehind 22 = .ok (.aload_n 0, 1) := by decide +kernel
theorem dX1_linesFromBehind_23 : decode cX1_linesFromBehind 23 = .ok (.getfield 21, 3) := by decide +kernel
theorem dX1_linesFromBehind_26 : decode cX1_linesFromBehind 26 = .ok (.iload_n 2, 1) := by decide +kernel
theorem dX1_linesFromBehind_27 : decode cX1_linesFromBehind 27 = .ok (.iconst 1, 1) := by decide +kernel
theorem dX1_linesFromBehind_28 : decode cX1_linesFromBehind 28 = .ok (.iadd, 1) := by decide +kernel
theorem dX1_linesFromBehind_29 : decode cX1_linesFromBehind 29 = .ok (.iaload, 1) := by decide +kernel
theorem dX1_linesFromBehind_30 : decode cX1_linesFromBehind 30 = .ok (.iadd, 1) := by decide +kernel
theorem dX1_linesFromBehind_31 : decode cX1_linesFromBehind 31 = .ok (.istore_n 3, 1) := by decide +kernel
theorem dX1_linesFromBehind_32 : decode cX1_linesFromBehind 32 = .ok (.aload_n 0, 1) := by decide +kernel
theorem dX1_linesFromBehind_33 : decode cX1_linesFromBehind 33 = .ok (.getfield 18, 3) := by decide +kernel
theorem dX1_linesFromBehind_36 : decode cX1_linesFromBehind 36 = .ok (.iload_n 2, 1) := by decide +kernel
theorem dX1_linesFromBehind_37 : decode cX1_linesFromBehind 37 = .ok (.iaload, 1) := by decide +kernel
theorem dX1_linesFromBehind_38 : decode cX1_linesFromBehind 38 = .ok (.istore 4, 2) := by decide +kernel
theorem dX1_linesFromBehind_40 : decode cX1_linesFromBehind 40 = .ok (.iload_n 2, 1) := by decide +kernel
theorem dX1_linesFromBehind_41 : decode cX1_linesFromBehind 41 = .ok (.iconst 1, 1) := by decide +kernel
theorem dX1_linesFromBehind_42 : decode cX1_linesFromBehind 42 = .ok (.iadd, 1) := by decide +kernel
theorem dX1_linesFromBehind_43 : decode cX1_linesFromBehind 43 = .ok (.istore 5, 2) := by decide +kernel
theorem dX1_linesFromBehind_45 : decode cX1_linesFromBehind 45 = .ok (.iload 5, 2) := by decide +kernel
theorem dX1_linesFromBehind_47 : decode cX1_linesFromBehind 47 = .ok (.aload_n 0, 1) := by decide +kernel
theorem dX1_linesFromBehind_48 : decode cX1_linesFromBehind 48 = .ok (.getfield 24, 3) := by decide +kernel
theorem dX1_linesFromBehind_51 : decode cX1_linesFromBehind 51 = .ok (.if_icmp .ge 55, 3) := by decide +kernel
theorem dX1_linesFromBehind_54 : decode cX1_linesFromBehind 54 = .ok (.iload 4, 2) := by decide +kernel
theorem dX1_linesFromBehind_56 : decode cX1_linesFromBehind 56 = .ok (.aload_n 1, 1) := by decide +kernel
theorem dX1_linesFromBehind_57 : decode cX1_linesFromBehind 57 = .ok (.getfield 34, 3) := by decide +kernel
theorem dX1_linesFromBehind_60 : decode cX1_linesFromBehind 60 = .ok (.iconst 2, 1) := by decide +kernel
theorem dX1_linesFromBehind_61 : decode cX1_linesFromBehind 61 = .ok (.iaload, 1) := by decide +kernel
theorem dX1_linesFromBehind_62 : decode cX1_linesFromBehind 62 = .ok (.aload_n 0, 1) := by decide +kernel
theorem dX1_linesFromBehind_63 : decode cX1_linesFromBehind 63 = .ok (.getfield 18, 3) := by decide +kernel
theorem dX1_linesFromBehind_66 : decode cX1_linesFromBehind 66 = .ok (.iload 5, 2) := by decide +kernel
theorem dX1_linesFromBehind_68 : decode cX1_linesFromBehind 68 = .ok (.iaload, 1) := by decide +kernel
theorem dX1_linesFromBehind_69 : decode cX1_linesFromBehind 69 = .ok (.iadd, 1) := by decide +kernel
theorem dX1_linesFromBehind_70 : decode cX1_linesFromBehind 70 = .ok (.iadd, 1) := by decide +kernel
theorem dX1_linesFromBehind_71 : decode cX1_linesFromBehind 71 = .ok (.istore 4, 2) := by decide +kernel
theorem dX1_linesFromBehind_73 : decode cX1_linesFromBehind 73 = .ok (.iload 4, 2) := by decide +kernel
theorem dX1_linesFromBehind_75 : decode cX1_linesFromBehind 75 = .ok (.aload_n 1, 1) := by decide +kernel
theorem dX1_linesFromBehind_76 : decode cX1_linesFromBehind 76 = .ok (.getfield 34, 3) := by decide +kernel
theorem dX1_linesFromBehind_79 : decode cX1_linesFromBehind 79 = .ok (.iconst 3, 1) := by decide +kernel
theorem dX1_linesFromBehind_80 : decode cX1_linesFromBehind 80 = .ok (.iaload, 1) := by decide +kernel
theorem dX1_linesFromBehind_81 : decode cX1_linesFromBehind 81 = .ok (.if_icmp .gt 19, 3) := by decide +kernel
theorem dX1_linesFromBehind_84 : decode cX1_linesFromBehind 84 = .ok (.iload_n 3, 1) := by decide +kernel
theorem dX1_linesFromBehind_85 : decode cX1_linesFromBehind 85 = .ok (.iconst 1, 1) := by decide +kernel
theorem dX1_linesFromBehind_86 : decode cX1_linesFromBehind 86 = .ok (.aload_n 0, 1) := by decide +kernel
theorem dX1_linesFromBehind_87 : decode cX1_linesFromBehind 87 = .ok (.getfield 21, 3) := by decide +kernel
theorem dX1_linesFromBehind_90 : decode cX1_linesFromBehind 90 = .ok (.iload 5, 2) := by decide +kernel
theorem dX1_linesFromBehind_92 : decode cX1_linesFromBehind 92 = .ok (.iconst 1, 1) := by decide +kernel
theorem dX1_linesFromBehind_93 : decode cX1_linesFromBehind 93 = .ok (.iadd, 1) := by decide +kernel
theorem dX1_linesFromBehind_94 : decode cX1_linesFromBehind 94 = .ok (.iaload, 1) := by decide +kernel
theorem dX1_linesFromBehind_95 : decode cX1_linesFromBehind 95 = .ok (.iadd, 1) := by decide +kernel
theorem dX1_linesFromBehind_96 : decode cX1_linesFromBehind 96 = .ok (.invokestatic 81, 3) := by decide +kernel
theorem dX1_linesFromBehind_99 : decode cX1_linesFromBehind 99 = .ok (.istore_n 3, 1) := by decide +kernel
theorem dX1_linesFromBehind_100 : decode cX1_linesFromBehind 100 = .ok (.iinc 5 1, 3) := by decide +kernel
theorem dX1_linesFromBehind_103 : decode cX1_linesFromBehind 103 = .ok (.goto (-58), 3) := by decide +kernel
theorem dX1_linesFromBehind_106 : decode cX1_linesFromBehind 106 = .ok (.aload_n 0, 1) := by decide +kernel
theorem dX1_linesFromBehind_107 : decode cX1_linesFromBehind 107 = .ok (.getfield 21, 3) := by decide +kernel
theorem dX1_linesFromBehind_110 : decode cX1_linesFromBehind 110 = .ok (.iload_n 2, 1) := by decide +kernel
theorem dX1_linesFromBehind_111 : decode cX1_linesFromBehind 111 = .ok (.iload_n 3, 1) := by decide +kernel
theorem dX1_linesFromBehind_112 : decode cX1_linesFromBehind 112 = .ok (.iastore, 1) := by decide +kernel
theorem dX1_linesFromBehind_113 : decode cX1_linesFromBehind 113 = .ok (.iinc 2 (-1), 3) := by decide +kernel
theorem dX1_linesFromBehind_116 : decode cX1_linesFromBehind 116 = .ok (.goto (-99), 3) := by decide +kernel
theorem dX1_linesFromBehind_119 : decode cX1_linesFromBehind 119 = .ok (.aload_n 0, 1) := by decide +kernel
theorem dX1_linesFromBehind_120 : decode cX1_linesFromBehind 120 = .ok (.getfield 21, 3) := by decide +kernel
theorem dX1_linesFromBehind_123 : decode cX1_linesFromBehind 123 = .ok (.iconst 0, 1) := by decide +kernel
theorem dX1_linesFromBehind_124 : decode cX1_linesFromBehind 124 = .ok (.iaload, 1) := by decide +kernel
theorem dX1_linesFromBehind_125 : decode cX1_linesFromBehind 125 = .ok (.ireturn, 1) := by decide +kernel
theorem dX2_init_0 : decode cX2_init 0 = .ok (.aload_n 0, 1) := by decide +kernel
theorem dX2_init_1 : decode cX2_init 1 = .ok (.invokespecial 3, 3) := by decide +kernel
theorem dX2_init_4 : decode cX2_init 4 = .ok (.aload_n 0, 1) := by decide +kernel
theorem dX2_init_5 : decode cX2_init 5 = .ok (.bipush 10, 2) := by decide +kernel
theorem dX2_init_7 : decode cX2_init 7 = .ok (.newarray .int, 2) := by decide +kernel
theorem dX2_init_9 : decode cX2_init 9 = .ok (.putfield 9, 3) := by decide +kernel
theorem dX2_init_12 : decode cX2_init 12 = .ok (.aload_n 0, 1) := by decide +kernel
theorem dX2_init_13 : decode cX2_init 13 = .ok (.bipush 10, 2) := by decide +kernel
theorem dX2_init_15 : decode cX2_init 15 = .ok (.newarray .int, 2) := by decide +kernel
theorem dX2_init_17 : decode cX2_init 17 = .ok (.putfield 15, 3) := by decide +kernel
theorem dX2_init_20 : decode cX2_init 20 = .ok (.aload_n 0, 1) := by decide +kernel
theorem dX2_init_21 : decode cX2_init 21 = .ok (.bipush 10, 2) := by decide +kernel
theorem dX2_init_23 : decode cX2_init 23 = .ok (.newarray .int, 2) := by decide +kernel
theorem dX2_init_25 : decode cX2_init 25 = .ok (.putfield 18, 3) := by decide +kernel
theorem dX2_init_28 : decode cX2_init 28 = .ok (.aload_n 0, 1) := by decide +kernel
theorem dX2_init_29 : decode cX2_init 29 = .ok (.bipush 16, 2) := by decide +kernel
theorem dX2_init_31 : decode cX2_init 31 = .ok (.newarray .int, 2) := by decide +kernel
theorem dX2_init_33 : decode cX2_init 33 = .ok (.putfield 21, 3) := by decide +kernel
theorem dX2_init_36 : decode cX2_init 36 = .ok (.aload_n 0, 1) := by decide +kernel
theorem dX2_init_37 : decode cX2_init 37 = .ok (.iconst 4, 1) := by decide +kernel
theorem dX2_init_38 : decode cX2_init 38 = .ok (.newarray .int, 2) := by decide +kernel
theorem dX2_init_40 : decode cX2_init 40 = .ok (.putfield 24, 3) := by decide +kernel
theorem dX2_init_43 : decode cX2_init 43 = .ok (.aload_n 0, 1) := by decide +kernel
theorem dX2_init_44 : decode cX2_init 44 = .ok (.bipush 40, 2) := by decide +kernel
theorem dX2_init_46 : decode cX2_init 46 = .ok (.newarray .int, 2) := by decide +kernel
theorem dX2_init_48 : decode cX2_init 48 = .ok (.putfield 27, 3) := by decide +kernel
theorem dX2_init_51 : decode cX2_init 51 = .ok (.aload_n 0, 1) := by decide +kernel
theorem dX2_init_52 : decode cX2_init 52 = .ok (.bipush 40, 2) := by decide +kernel
theorem dX2_init_54 : decode cX2_init 54 = .ok (.newarray .int, 2) := by decide +kernel
theorem dX2_init_56 : decode cX2_init 56 = .ok (.putfield 30, 3) := by decide +kernel
theorem dX2_init_59 : decode cX2_init 59 = .ok (.aload_n 0, 1) := by decide +kernel
theorem dX2_init_60 : decode cX2_init 60 = .ok (.iconst 0, 1) := by decide +kernel
theorem dX2_init_61 : decode cX2_init 61 = .ok (.putfield 33, 3) := by decide +kernel
theorem dX2_init_64 : decode cX2_init 64 = .ok (.aload_n 0, 1) := by decide +kernel
theorem dX2_init_65 : decode cX2_init 65 = .ok (.new 37, 3) := by decide +kernel
theorem dX2_init_68 : decode cX2_init 68 = .ok (.dup, 1) := by decide +kernel
theorem dX2_init_69 : decode cX2_init 69 = .ok (.invokespecial 39, 3) := by decide +kernel
theorem dX2_init_72 : decode cX2_init 72 = .ok (.putfield 40, 3) := by decide +kernel
theorem dX2_init_75 : decode cX2_init 75 = .ok (.aload_n 0, 1) := by decide +kernel
theorem dX2_init_76 : decode cX2_init 76 = .ok (.iconst 0, 1) := by decide +kernel
theorem dX2_init_77 : decode cX2_init 77 = .ok (.putfield 44, 3) := by decide +kernel
theorem dX2_init_80 : decode cX2_init 80 = .ok (.aload_n 0, 1) := by decide +kernel
theorem dX2_init_81 : decode cX2_init 81 = .ok (.iconst 0, 1) := by decide +kernel
theorem dX2_init_82 : decode cX2_init 82 = .ok (.putfield 47, 3) := by decide +kernel
theorem dX2_init_85 : decode cX2_init 85 = .ok (.aload_n 0, 1) := by decide +kernel
theorem dX2_init_86 : decode cX2_init 86 = .ok (.iconst 0, 1) := by decide +kernel
theorem dX2_init_87 : decode cX2_init 87 = .ok (.putfield 50, 3) := by decide +kernel
theorem dX2_init_90 : decode cX2_init 90 = .ok (.iconst 0, 1) := by decide +kernel
theorem dX2_init_91 : decode cX2_init 91 = .ok (.istore_n 1, 1) := by decide +kernel
theorem dX2_init_92 : decode cX2_init 92 = .ok (.iload_n 1, 1) := by decide +kernel
theorem dX2_init_93 : decode cX2_init 93 = .ok (.bipush 10, 2) := by decide +kernel
theorem dX2_init_95 : decode cX2_init 95 = .ok (.if_icmp .ge 35, 3) := by decide +kernel
theorem dX2_init_98 : decode cX2_init 98 = .ok (.aload_n 0, 1) := by decide +kernel
theorem dX2_init_99 : decode cX2_init 99 = .ok (.getfield 9, 3) := by decide +kernel
theorem dX2_init_102 : decode cX2_init 102 = .ok (.iload_n 1, 1) := by decide +kernel
theorem dX2_init_103 : decode cX2_init 103 = .ok (.bipush 16, 2) := by decide +kernel
theorem dX2_init_105 : decode cX2_init 105 = .ok (.iastore, 1) := by decide +kernel
theorem dX2_init_106 : decode cX2_init 106 = .ok (.aload_n 0, 1) := by decide +kernel
theorem dX2_init_107 : decode cX2_init 107 = .ok (.getfield 15, 3) := by decide +kernel
theorem dX2_init_110 : decode cX2_init 110 = .ok (.iload_n 1, 1) := by decide +kernel
theorem dX2_init_111 : decode cX2_init 111 = .ok (.iload_n 1, 1) := by decide +kernel
theorem dX2_init_112 : decode cX2_init 112 = .ok (.iconst 4, 1) := by decide +kernel
theorem dX2_init_113 : decode cX2_init 113 = .ok (.irem, 1) := by decide +kernel
theorem dX2_init_114 : decode cX2_init 114 = .ok (.iastore, 1) := by decide +kernel
theorem dX2_init_115 : decode cX2_init 115 = .ok (.aload_n 0, 1) := by decide +kernel
theorem dX2_init_116 : decode cX2_init 116 = .ok (.getfield 18, 3) := by decide +kernel
theorem dX2_init_119 : decode cX2_init 119 = .ok (.iload_n 1, 1) := by decide +kernel
theorem dX2_init_120 : decode cX2_init 120 = .ok (.iload_n 1, 1) := by decide +kernel
theorem dX2_init_121 : decode cX2_init 121 = .ok (.iconst 4, 1) := by decide +kernel
theorem dX2_init_122 : decode cX2_init 122 = .ok (.irem, 1) := by decide +kernel
theorem dX2_init_123 : decode cX2_init 123 = .ok (.iastore, 1) := by decide +kernel
theorem dX2_init_124 : decode cX2_init 124 = .ok (.iinc 1 1, 3) := by decide +kernel
theorem dX2_init_127 : decode cX2_init 127 = .ok (.goto (-35), 3) := by decide +kernel
theorem dX2_init_130 : decode cX2_init 130 = .ok (.iconst 0, 1) := by decide +kernel
theorem dX2_init_131 : decode cX2_init 131 = .ok (.istore_n 1, 1) := by decide +kernel
theorem dX2_init_132 : decode cX2_init 132 = .ok (.iload_n 1, 1) := by decide +kernel
theorem dX2_init_133 : decode cX2_init 133 = .ok (.iconst 4, 1) := by decide +kernel
theorem dX2_init_134 : decode cX2_init 134 = .ok (.if_icmp .ge 20, 3) := by decide +kernel
theorem dX2_init_137 : decode cX2_init 137 = .ok (.aload_n 0, 1) := by decide +kernel
theorem dX2_init_138 : decode cX2_init 138 = .ok (.getfield 24, 3) := by decide +kernel
theorem dX2_init_141 : decode cX2_init 141 = .ok (.iload_n 1, 1) := by decide +kernel
theorem dX2_init_142 : decode cX2_init 142 = .ok (.getstatic 53, 3) := by decide +kernel
theorem dX2_init_145 : decode cX2_init 145 = .ok (.iload_n 1, 1) := by decide +kernel
theorem dX2_init_146 : decode cX2_init 146 = .ok (.iaload, 1) := by decide +kernel
theorem dX2_init_147 : decode cX2_init 147 = .ok (.iastore, 1) := by decide +kernel
theorem dX2_init_148 : decode cX2_init 148 = .ok (.iinc 1 1, 3) := by decide +kernel
theorem dX2_init_151 : decode cX2_init 151 = .ok (.goto (-19), 3) := by decide +kernel
theorem dX2_init_154 : decode cX2_init 154 = .ok (.return_, 1) := by decide +kernel
theorem dX2_becomeLike_0 : decode cX2_becomeLike 0 = .ok (.aload_n 1, 1) := by decide +kernel
theorem dX2_becomeLike_1 : decode cX2_becomeLike 1 = .ok (.getfield 9, 3) := by decide +kernel
theorem dX2_becomeLike_4 : decode cX2_becomeLike 4 = .ok (.iconst 0, 1) := by decide +kernel
theorem dX2_becomeLike_5 : decode cX2_becomeLike 5 = .ok (.aload_n 0, 1) := by decide +kernel
theorem dX2_becomeLike_6 : decode cX2_becomeLike 6 = .ok (.getfield 9, 3) := by decide +kernel
theorem dX2_becomeLike_9 : decode cX2_becomeLike 9 = .ok (.iconst 0, 1) := by decide +kernel
theorem dX2_becomeLike_10 : decode cX2_becomeLike 10 = .ok (.bipush 10, 2) := by decide +kernel
theorem dX2_becomeLike_12 : decode cX2_becomeLike 12 = .ok (.invokestatic 56, 3) := by decide +kernel
theorem dX2_becomeLike_15 : decode cX2_becomeLike 15 = .ok (.aload_n 1, 1) := by decide +kernel
theorem dX2_becomeLike_16 : decode cX2_becomeLike 16 = .ok (.getfield 15, 3) := by decide +kernel
theorem dX2_becomeLike_19 : decode cX2_becomeLike 19 = .ok (.iconst 0, 1) := by decide +kernel
theorem dX2_becomeLike_20 : decode cX2_becomeLike 20 = .ok (.aload_n 0, 1) := by decide +kernel
theorem dX2_becomeLike_21 : decode cX2_becomeLike 21 = .ok (.getfield 15, 3) := by decide +kernel
theorem dX2_becomeLike_24 : decode cX2_becomeLike 24 = .ok (.iconst 0, 1) := by decide +kernel
theorem dX2_becomeLike_25 : decode cX2_becomeLike 25 = .ok (.bipush 10, 2) := by decide +kernel
theorem dX2_becomeLike_27 : decode cX2_becomeLike 27 = .ok (.invokestatic 56, 3) := by decide +kernel
theorem dX2_becomeLike_30 : decode cX2_becomeLike 30 = .ok (.aload_n 1, 1) := by decide +kernel
theorem dX2_becomeLike_31 : decode cX2_becomeLike 31 = .ok (.getfield 18, 3) := by decide +kernel
theorem dX2_becomeLike_34 : decode cX2_becomeLike 34 = .ok (.iconst 0, 1) := by decide +kernel
theorem dX2_becomeLike_35 : decode cX2_becomeLike 35 = .ok (.aload_n 0, 1) := by decide +kernel
theorem dX2_becomeLike_36 : decode cX2_becomeLike 36 = .ok (.getfield 18, 3) := by decide +kernel
theorem dX2_becomeLike_39 : decode cX2_becomeLike 39 = .ok (.iconst 0, 1) := by decide +kernel
theorem dX2_becomeLike_40 : decode cX2_becomeLike 40 = .ok (.bipush 10, 2) := by decide +kernel
theorem dX2_becomeLike_42 : decode cX2_becomeLike 42 = .ok (.invokestatic 56, 3) := by decide +kernel
theorem dX2_becomeLike_45 : decode cX2_becomeLike 45 = .ok (.aload_n 1, 1) := by decide +kernel
theorem dX2_becomeLike_46 : decode cX2_becomeLike 46 = .ok (.getfield 21, 3) := by decide +kernel
theorem dX2_becomeLike_49 : decode cX2_becomeLike 49 = .ok (.iconst 0, 1) := by decide +kernel
theorem dX2_becomeLike_50 : decode cX2_becomeLike 50 = .ok (.aload_n 0, 1) := by decide +kernel
theorem dX2_becomeLike_51 : decode cX2_becomeLike 51 = .ok (.getfield 21, 3) := by decide +kernel
theorem dX2_becomeLike_54 : decode cX2_becomeLike 54 = .ok (.iconst 0, 1) := by decide +kernel
theorem dX2_becomeLike_55 : decode cX2_becomeLike 55 = .ok (.bipush 16, 2) := by decide +kernel
theorem dX2_becomeLike_57 : decode cX2_becomeLike 57 = .ok (.invokestatic 56, 3) := by decide +kernel
theorem dX2_becomeLike_60 : decode cX2_becomeLike 60 = .ok (.aload_n 1, 1) := by decide +kernel
theorem dX2_becomeLike_61 : decode cX2_becomeLike 61 = .ok (.getfield 24, 3) := by decide +kernel
theorem dX2_becomeLike_64 : decode cX2_becomeLike 64 = .ok (.iconst 0, 1) := by decide +kernel
theorem dX2_becomeLike_65 : decode cX2_becomeLike 65 = .ok (.aload_n 0, 1) := by decide +kernel
theorem dX2_becomeLike_66 : decode cX2_becomeLike 66 = .ok (.getfield 24, 3) := by decide +kernel
theorem dX2_becomeLike_69 : decode cX2_becomeLike 69 = .ok (.iconst 0, 1) := by decide +kernel
theorem dX2_becomeLike_70 : decode cX2_becomeLike 70 = .ok (.iconst 4, 1) := by decide +kernel
theorem dX2_becomeLike_71 : decode cX2_becomeLike 71 = .ok (.invokestatic 56, 3) := by decide +kernel
theorem dX2_becomeLike_74 : decode cX2_becomeLike 74 = .ok (.aload_n 1, 1) := by decide +kernel
theorem dX2_becomeLike_75 : decode cX2_becomeLike 75 = .ok (.getfield 27, 3) := by decide +kernel
theorem dX2_becomeLike_78 : decode cX2_becomeLike 78 = .ok (.iconst 0, 1) := by decide +kernel
theorem dX2_becomeLike_79 : decode cX2_becomeLike 79 = .ok (.aload_n 0, 1) := by decide +kernel
theorem dX2_becomeLike_80 : decode cX2_becomeLike 80 = .ok (.getfield 27, 3) := by decide +kernel
theorem dX2_becomeLike_83 : decode cX2_becomeLike 83 = .ok (.iconst 0, 1) := by decide +kernel
theorem dX2_becomeLike_84 : decode cX2_becomeLike 84 = .ok (.bipush 40, 2) := by decide +kernel
theorem dX2_becomeLike_86 : decode cX2_becomeLike 86 = .ok (.invokestatic 56, 3) := by decide +kernel
theorem dX2_becomeLike_89 : decode cX2_becomeLike 89 = .ok (.aload_n 1, 1) := by decide +kernel
theorem dX2_becomeLike_90 : decode cX2_becomeLike 90 = .ok (.getfield 30, 3) := by decide +kernel
theorem dX2_becomeLike_93 : decode cX2_becomeLike 93 = .ok (.iconst 0, 1) := by decide +kernel
theorem dX2_becomeLike_94 : decode cX2_becomeLike 94 = .ok (.aload_n 0, 1) := by decide +kernel
theorem dX2_becomeLike_95 : decode cX2_becomeLike 95 = .ok (.getfield 30, 3) := by decide +kernel
theorem dX2_becomeLike_98 : decode cX2_becomeLike 98 = .ok (.iconst 0, 1) := by decide +kernel
theorem dX2_becomeLike_99 : decode cX2_becomeLike 99 = .ok (.bipush 40, 2) := by decide +kernel
theorem dX2_becomeLike_101 : decode cX2_becomeLike 101 = .ok (.invokestatic 56, 3) := by decide +kernel
theorem dX2_becomeLike_104 : decode cX2_becomeLike 104 = .ok (.aload_n 0, 1) := by decide +kernel
theorem dX2_becomeLike_105 : decode cX2_becomeLike 105 = .ok (.aload_n 1, 1) := by decide +kernel
theorem dX2_becomeLike_106 : decode cX2_becomeLike 106 = .ok (.getfield 33, 3) := by decide +kernel
theorem dX2_becomeLike_109 : decode cX2_becomeLike 109 = .ok (.putfield 33, 3) := by decide +kernel
theorem dX2_becomeLike_112 : decode cX2_becomeLike 112 = .ok (.aload_n 0, 1) := by decide +kernel
theorem dX2_becomeLike_113 : decode cX2_becomeLike 113 = .ok (.getfield 40, 3) := by decide +kernel
theorem dX2_becomeLike_116 : decode cX2_becomeLike 116 = .ok (.aload_n 1, 1) := by decide +kernel
theorem dX2_becomeLike_117 : decode cX2_becomeLike 117 = .ok (.getfield 40, 3) := by decide +kernel
theorem dX2_becomeLike_120 : decode cX2_becomeLike 120 = .ok (.invokevirtual 62, 3) := by decide +kernel
theorem dX2_becomeLike_123 : decode cX2_becomeLike 123 = .ok (.aload_n 0, 1) := by decide +kernel
theorem dX2_becomeLike_124 : decode cX2_becomeLike 124 = .ok (.aload_n 1, 1) := by decide +kernel
theorem dX2_becomeLike_125 : decode cX2_becomeLike 125 = .ok (.getfield 44, 3) := by decide +kernel
theorem dX2_becomeLike_128 : decode cX2_becomeLike 128 = .ok (.putfield 44, 3) := by decide +kernel
theorem dX2_becomeLike_131 : decode cX2_becomeLike 131 = .ok (.aload_n 0, 1) := by decide +kernel
theorem dX2_becomeLike_132 : decode cX2_becomeLike 132 = .ok (.aload_n 1, 1) := by decide +kernel
theorem dX2_becomeLike_133 : decode cX2_becomeLike 133 = .ok (.getfield 47, 3) := by decide +kernel
theorem dX2_becomeLike_136 : decode cX2_becomeLike 136 = .ok (.putfield 47, 3) := by decide +kernel
theorem dX2_becomeLike_139 : decode cX2_becomeLike 139 = .ok (.aload_n 0, 1) := by decide +kernel
theorem dX2_becomeLike_140 : decode cX2_becomeLike 140 = .ok (.aload_n 1, 1) := by decide +kernel
theorem dX2_becomeLike_141 : decode cX2_becomeLike 141 = .ok (.getfield 50, 3) := by decide +kernel
theorem dX2_becomeLike_144 : decode cX2_becomeLike 144 = .ok (.putfield 50, 3) := by decide +kernel
theorem dX2_becomeLike_147 : decode cX2_becomeLike 147 = .ok (.return_, 1) := by decide +kernel
theorem dX2_shapesOfPair_0 : decode cX2_shapesOfPair 0 = .ok (.iconst 4, 1) := by decide +kernel
theorem dX2_shapesOfPair_1 : decode cX2_shapesOfPair 1 = .ok (.aload_n 0, 1) := by decide +kernel
theorem dX2_shapesOfPair_2 : decode cX2_shapesOfPair 2 = .ok (.getfield 18, 3) := by decide +kernel
theorem dX2_shapesOfPair_5 : decode cX2_shapesOfPair 5 = .ok (.iload_n 1, 1) := by decide +kernel
theorem dX2_shapesOfPair_6 : decode cX2_shapesOfPair 6 = .ok (.bipush 10, 2) := by decide +kernel
theorem dX2_shapesOfPair_8 : decode cX2_shapesOfPair 8 = .ok (.idiv, 1) := by decide +kernel
theorem dX2_shapesOfPair_9 : decode cX2_shapesOfPair 9 = .ok (.iaload, 1) := by decide +kernel
theorem dX2_shapesOfPair_10 : decode cX2_shapesOfPair 10 = .ok (.imul, 1) := by decide +kernel
theorem dX2_shapesOfPair_11 : decode cX2_shapesOfPair 11 = .ok (.aload_n 0, 1) := by decide +kernel
theorem dX2_shapesOfPair_12 : decode cX2_shapesOfPair 12 = .ok (.getfield 15, 3) := by decide +kernel
theorem dX2_shapesOfPair_15 : decode cX2_shapesOfPair 15 = .ok (.iload_n 1, 1) := by decide +kernel
theorem dX2_shapesOfPair_16 : decode cX2_shapesOfPair 16 = .ok (.bipush 10, 2) := by decide +kernel
theorem dX2_shapesOfPair_18 : decode cX2_shapesOfPair 18 = .ok (.irem, 1) := by decide +kernel
theorem dX2_shapesOfPair_19 : decode cX2_shapesOfPair 19 = .ok (.iaload, 1) := by decide +kernel
theorem dX2_shapesOfPair_20 : decode cX2_shapesOfPair 20 = .ok (.iadd, 1) := by decide +kernel
theorem dX2_shapesOfPair_21 : decode cX2_shapesOfPair 21 = .ok (.ireturn, 1) := by decide +kernel
theorem dX2_goThroughAgain_0 : decode cX2_goThroughAgain 0 = .ok (.aload_n 0, 1) := by decide +kernel
theorem dX2_goThroughAgain_1 : decode cX2_goThroughAgain 1 = .ok (.getfield 40, 3) := by decide +kernel
theorem dX2_goThroughAgain_4 : decode cX2_goThroughAgain 4 = .ok (.aload_n 0, 1) := by decide +kernel
theorem dX2_goThroughAgain_5 : decode cX2_goThroughAgain 5 = .ok (.iconst (-1), 1) := by decide +kernel
theorem dX2_goThroughAgain_6 : decode cX2_goThroughAgain 6 = .ok (.invokevirtual 66, 3) := by decide +kernel
theorem dX2_goThroughAgain_9 : decode cX2_goThroughAgain 9 = .ok (.aload_n 0, 1) := by decide +kernel
theorem dX2_goThroughAgain_10 : decode cX2_goThroughAgain 10 = .ok (.dup, 1) := by decide +kernel
theorem dX2_goThroughAgain_11 : decode cX2_goThroughAgain 11 = .ok (.getfield 50, 3) := by decide +kernel
theorem dX2_goThroughAgain_14 : decode cX2_goThroughAgain 14 = .ok (.iconst 1, 1) := by decide +kernel
theorem dX2_goThroughAgain_15 : decode cX2_goThroughAgain 15 = .ok (.iadd, 1) := by decide +kernel
theorem dX2_goThroughAgain_16 : decode cX2_goThroughAgain 16 = .ok (.putfield 50, 3) := by decide +kernel
theorem dX2_goThroughAgain_19 : decode cX2_goThroughAgain 19 = .ok (.return_, 1) := by decide +kernel
theorem dX2_addLesson_0 : decode cX2_addLesson 0 = .ok (.aload_n 0, 1) := by decide +kernel
theorem dX2_addLesson_1 : decode cX2_addLesson 1 = .ok (.getfield 27, 3) := by decide +kernel
theorem dX2_addLesson_4 : decode cX2_addLesson 4 = .ok (.aload_n 0, 1) := by decide +kernel
theorem dX2_addLesson_5 : decode cX2_addLesson 5 = .ok (.getfield 33, 3) := by decide +kernel
theorem dX2_addLesson_8 : decode cX2_addLesson 8 = .ok (.iload_n 1, 1) := by decide +kernel
theorem dX2_addLesson_9 : decode cX2_addLesson 9 = .ok (.iastore, 1) := by decide +kernel
theorem dX2_addLesson_10 : decode cX2_addLesson 10 = .ok (.aload_n 0, 1) := by decide +kernel
theorem dX2_addLesson_11 : decode cX2_addLesson 11 = .ok (.getfield 30, 3) := by decide +kernel
theorem dX2_addLesson_14 : decode cX2_addLesson 14 = .ok (.aload_n 0, 1) := by decide +kernel
theorem dX2_addLesson_15 : decode cX2_addLesson 15 = .ok (.getfield 33, 3) := by decide +kernel
theorem dX2_addLesson_18 : decode cX2_addLesson 18 = .ok (.iload_n 2, 1) := by decide +kernel
theorem dX2_addLesson_19 : decode cX2_addLesson 19 = .ok (.iastore, 1) := by decide +kernel
theorem dX2_addLesson_20 : decode cX2_addLesson 20 = .ok (.aload_n 0, 1) := by decide +kernel
theorem dX2_addLesson_21 : decode cX2_addLesson 21 = .ok (.getfield 40, 3) := by decide +kernel
theorem dX2_addLesson_24 : decode cX2_addLesson 24 = .ok (.getfield 70, 3) := by decide +kernel
theorem dX2_addLesson_27 : decode cX2_addLesson 27 = .ok (.aload_n 0, 1) := by decide +kernel
theorem dX2_addLesson_28 : decode cX2_addLesson 28 = .ok (.getfield 33, 3) := by decide +kernel
theorem dX2_addLesson_31 : decode cX2_addLesson 31 = .ok (.iconst 0, 1) := by decide +kernel
theorem dX2_addLesson_32 : decode cX2_addLesson 32 = .ok (.iastore, 1) := by decide +kernel
theorem dX2_addLesson_33 : decode cX2_addLesson 33 = .ok (.aload_n 0, 1) := by decide +kernel
theorem dX2_addLesson_34 : decode cX2_addLesson 34 = .ok (.dup, 1) := by decide +kernel
theorem dX2_addLesson_35 : decode cX2_addLesson 35 = .ok (.getfield 33, 3) := by decide +kernel
theorem dX2_addLesson_38 : decode cX2_addLesson 38 = .ok (.iconst 1, 1) := by decide +kernel
theorem dX2_addLesson_39 : decode cX2_addLesson 39 = .ok (.iadd, 1) := by decide +kernel
theorem dX2_addLesson_40 : decode cX2_addLesson 40 = .ok (.putfield 33, 3) := by decide +kernel
theorem dX2_addLesson_43 : decode cX2_addLesson 43 = .ok (.return_, 1) := by decide +kernel
theorem dX2_dropLesson_0 : decode cX2_dropLesson 0 = .ok (.iload_n 1, 1) := by decide +kernel
theorem dX2_dropLesson_1 : decode cX2_dropLesson 1 = .ok (.iconst 1, 1) := by decide +kernel
theorem dX2_dropLesson_2 : decode cX2_dropLesson 2 = .ok (.iadd, 1) := by decide +kernel
theorem dX2_dropLesson_3 : decode cX2_dropLesson 3 = .ok (.istore_n 2, 1) := by decide +kernel
theorem dX2_dropLesson_4 : decode cX2_dropLesson 4 = .ok (.iload_n 2, 1) := by decide +kernel
theorem dX2_dropLesson_5 : decode cX2_dropLesson 5 = .ok (.aload_n 0, 1) := by decide +kernel
theorem dX2_dropLesson_6 : decode cX2_dropLesson 6 = .ok (.getfield 33, 3) := by decide +kernel
theorem dX2_dropLesson_9 : decode cX2_dropLesson 9 = .ok (.if_icmp .ge 37, 3) := by decide +kernel
theorem dX2_dropLesson_12 : decode cX2_dropLesson 12 = .ok (.aload_n 0, 1) := by decide +kernel
theorem dX2_dropLesson_13 : decode cX2_dropLesson 13 = .ok (.getfield 27, 3) := by decide +kernel
theorem dX2_dropLesson_16 : decode cX2_dropLesson 16 = .ok (.iload_n 2, 1) := by decide +kernel
theorem dX2_dropLesson_17 : decode cX2_dropLesson 17 = .ok (.iconst 1, 1) := by decide +kernel
theorem dX2_dropLesson_18 : decode cX2_dropLesson 18 = .ok (.isub, 1) := by decide +kernel
theorem dX2_dropLesson_19 : decode cX2_dropLesson 19 = .ok (.aload_n 0, 1) := by decide +kernel
theorem dX2_dropLesson_20 : decode cX2_dropLesson 20 = .ok (.getfield 27, 3) := by decide +kernel
theorem dX2_dropLesson_23 : decode cX2_dropLesson 23 = .ok (.iload_n 2, 1) := by decide +kernel
theorem dX2_dropLesson_24 : decode cX2_dropLesson 24 = .ok (.iaload, 1) := by decide +kernel
theorem dX2_dropLesson_25 : decode cX2_dropLesson 25 = .ok (.iastore, 1) := by decide +kernel
theorem dX2_dropLesson_26 : decode cX2_dropLesson 26 = .ok (.aload_n 0, 1) := by decide +kernel
theorem dX2_dropLesson_27 : decode cX2_dropLesson 27 = .ok (.getfield 30, 3) := by decide +kernel
theorem dX2_dropLesson_30 : decode cX2_dropLesson 30 = .ok (.iload_n 2, 1) := by decide +kernel
theorem dX2_dropLesson_31 : decode cX2_dropLesson 31 = .ok (.iconst 1, 1) := by decide +kernel
theorem dX2_dropLesson_32 : decode cX2_dropLesson 32 = .ok (.isub, 1) := by decide +kernel
theorem dX2_dropLesson_33 : decode cX2_dropLesson 33 = .ok (.aload_n 0, 1) := by decide +kernel
theorem dX2_dropLesson_34 : decode cX2_dropLesson 34 = .ok (.getfield 30, 3) := by decide +kernel
theorem dX2_dropLesson_37 : decode cX2_dropLesson 37 = .ok (.iload_n 2, 1) := by decide +kernel
theorem dX2_dropLesson_38 : decode cX2_dropLesson 38 = .ok (.iaload, 1) := by decide +kernel
theorem dX2_dropLesson_39 : decode cX2_dropLesson 39 = .ok (.iastore, 1) := by decide +kernel
theorem dX2_dropLesson_40 : decode cX2_dropLesson 40 = .ok (.iinc 2 1, 3) := by decide +kernel
theorem dX2_dropLesson_43 : decode cX2_dropLesson 43 = .ok (.goto (-39), 3) := by decide +kernel
theorem dX2_dropLesson_46 : decode cX2_dropLesson 46 = .ok (.aload_n 0, 1) := by decide +kernel
theorem dX2_dropLesson_47 : decode cX2_dropLesson 47 = .ok (.dup, 1) := by decide +kernel
theorem dX2_dropLesson_48 : decode cX2_dropLesson 48 = .ok (.getfield 33, 3) := by decide +kernel
theorem dX2_dropLesson_51 : decode cX2_dropLesson 51 = .ok (.iconst 1, 1) := by decide +kernel
theorem dX2_dropLesson_52 : decode cX2_dropLesson 52 = .ok (.isub, 1) := by decide +kernel
theorem dX2_dropLesson_53 : decode cX2_dropLesson 53 = .ok (.putfield 33, 3) := by decide +kernel
theorem dX2_dropLesson_56 : decode cX2_dropLesson 56 = .ok (.return_, 1) := by decide +kernel
theorem dX2_lessonsWithLetter_0 : decode cX2_lessonsWithLetter 0 = .ok (.iconst 0, 1) := by decide +kernel
theorem dX2_lessonsWithLetter_1 : decode cX2_lessonsWithLetter 1 = .ok (.istore_n 2, 1) := by decide +kernel
theorem dX2_lessonsWithLetter_2 : decode cX2_lessonsWithLetter 2 = .ok (.iconst 0, 1) := by decide +kernel
theorem dX2_lessonsWithLetter_3 : decode cX2_lessonsWithLetter 3 = .ok (.istore_n 3, 1) := by decide +kernel
theorem dX2_lessonsWithLetter_4 : decode cX2_lessonsWithLetter 4 = .ok (.iload_n 3, 1) := by decide +kernel
theorem dX2_lessonsWithLetter_5 : decode cX2_lessonsWithLetter 5 = .ok (.aload_n 0, 1) := by decide +kernel
theorem dX2_lessonsWithLetter_6 : decode cX2_lessonsWithLetter 6 = .ok (.getfield 33, 3) := by decide +kernel
theorem dX2_lessonsWithLetter_9 : decode cX2_lessonsWithLetter 9 = .ok (.if_icmp .ge 41, 3) := by decide +kernel
theorem dX2_lessonsWithLetter_12 : decode cX2_lessonsWithLetter 12 = .ok (.aload_n 0, 1) := by decide +kernel
theorem dX2_lessonsWithLetter_13 : decode cX2_lessonsWithLetter 13 = .ok (.getfield 27, 3) := by decide +kernel
theorem dX2_lessonsWithLetter_16 : decode cX2_lessonsWithLetter 16 = .ok (.iload_n 3, 1) := by decide +kernel
theorem dX2_lessonsWithLetter_17 : decode cX2_lessonsWithLetter 17 = .ok (.iaload, 1) := by decide +kernel
theorem dX2_lessonsWithLetter_18 : decode cX2_lessonsWithLetter 18 = .ok (.bipush 10, 2) := by decide +kernel
theorem dX2_lessonsWithLetter_20 : decode cX2_lessonsWithLetter 20 = .ok (.idiv, 1) := by decide +kernel
theorem dX2_lessonsWithLetter_21 : decode cX2_lessonsWithLetter 21 = .ok (.iload_n 1, 1) := by decide +kernel
theorem dX2_lessonsWithLetter_22 : decode cX2_lessonsWithLetter 22 = .ok (.if_icmp .ne 6, 3) := by decide +kernel
theorem dX2_lessonsWithLetter_25 : decode cX2_lessonsWithLetter 25 = .ok (.iinc 2 1, 3) := by decide +kernel
theorem dX2_lessonsWithLetter_28 : decode cX2_lessonsWithLetter 28 = .ok (.aload_n 0, 1) := by decide +kernel
theorem dX2_lessonsWithLetter_29 : decode cX2_lessonsWithLetter 29 = .ok (.getfield 27, 3) := by decide +kernel
theorem dX2_lessonsWithLetter_32 : decode cX2_lessonsWithLetter 32 = .ok (.iload_n 3, 1) := by decide +kernel
theorem dX2_lessonsWithLetter_33 : decode cX2_lessonsWithLetter 33 = .ok (.iaload, 1) := by decide +kernel
theorem dX2_lessonsWithLetter_34 : decode cX2_lessonsWithLetter 34 = .ok (.bipush 10, 2) := by decide +kernel
theorem dX2_lessonsWithLetter_36 : decode cX2_lessonsWithLetter 36 = .ok (.irem, 1) := by decide +kernel
theorem dX2_lessonsWithLetter_37 : decode cX2_lessonsWithLetter 37 = .ok (.iload_n 1, 1) := by decide +kernel
theorem dX2_lessonsWithLetter_38 : decode cX2_lessonsWithLetter 38 = .ok (.if_icmp .ne 6, 3) := by decide +kernel
theorem dX2_lessonsWithLetter_41 : decode cX2_lessonsWithLetter 41 = .ok (.iinc 2 1, 3) := by decide +kernel
theorem dX2_lessonsWithLetter_44 : decode cX2_lessonsWithLetter 44 = .ok (.iinc 3 1, 3) := by decide +kernel
theorem dX2_lessonsWithLetter_47 : decode cX2_lessonsWithLetter 47 = .ok (.goto (-43), 3) := by decide +kernel
theorem dX2_lessonsWithLetter_50 : decode cX2_lessonsWithLetter 50 = .ok (.iload_n 2, 1) := by decide +kernel
theorem dX2_lessonsWithLetter_51 : decode cX2_lessonsWithLetter 51 = .ok (.ireturn, 1) := by decide +kernel
theorem dX2_idleLessons_0 : decode cX2_idleLessons 0 = .ok (.iconst 0, 1) := by decide +kernel
theorem dX2_idleLessons_1 : decode cX2_idleLessons 1 = .ok (.istore_n 1, 1) := by decide +kernel
theorem dX2_idleLessons_2 : decode cX2_idleLessons 2 = .ok (.iconst 0, 1) := by decide +kernel
theorem dX2_idleLessons_3 : decode cX2_idleLessons 3 = .ok (.istore_n 2, 1) := by decide +kernel
theorem dX2_idleLessons_4 : decode cX2_idleLessons 4 = .ok (.iload_n 2, 1) := by decide +kernel
theorem dX2_idleLessons_5 : decode cX2_idleLessons 5 = .ok (.aload_n 0, 1) := by decide +kernel
theorem dX2_idleLessons_6 : decode cX2_idleLessons 6 = .ok (.getfield 33, 3) := by decide +kernel
theorem dX2_idleLessons_9 : decode cX2_idleLessons 9 = .ok (.if_icmp .ge 21, 3) := by decide +kernel
theorem dX2_idleLessons_12 : decode cX2_idleLessons 12 = .ok (.iload_n 1, 1) := by decide +kernel
theorem dX2_idleLessons_13 : decode cX2_idleLessons 13 = .ok (.aload_n 0, 1) := by decide +kernel
theorem dX2_idleLessons_14 : decode cX2_idleLessons 14 = .ok (.getfield 40, 3) := by decide +kernel
theorem dX2_idleLessons_17 : decode cX2_idleLessons 17 = .ok (.getfield 70, 3) := by decide +kernel
theorem dX2_idleLessons_20 : decode cX2_idleLessons 20 = .ok (.iload_n 2, 1) := by decide +kernel
theorem dX2_idleLessons_21 : decode cX2_idleLessons 21 = .ok (.iaload, 1) := by decide +kernel
theorem dX2_idleLessons_22 : decode cX2_idleLessons 22 = .ok (.iadd, 1) := by decide +kernel
theorem dX2_idleLessons_23 : decode cX2_idleLessons 23 = .ok (.istore_n 1, 1) := by decide +kernel
theorem dX2_idleLessons_24 : decode cX2_idleLessons 24 = .ok (.iinc 2 1, 3) := by decide +kernel
theorem dX2_idleLessons_27 : decode cX2_idleLessons 27 = .ok (.goto (-23), 3) := by decide +kernel
theorem dX2_idleLessons_30 : decode cX2_idleLessons 30 = .ok (.iload_n 1, 1) := by decide +kernel
theorem dX2_idleLessons_31 : decode cX2_idleLessons 31 = .ok (.ireturn, 1) := by decide +kernel
theorem dX2_pairsWithShapes_0 : decode cX2_pairsWithShapes 0 = .ok (.iconst 0, 1) := by decide +kernel
theorem dX2_pairsWithShapes_1 : decode cX2_pairsWithShapes 1 = .ok (.istore_n 2, 1) := by decide +kernel
theorem dX2_pairsWithShapes_2 : decode cX2_pairsWithShapes 2 = .ok (.iconst 0, 1) := by decide +kernel
theorem dX2_pairsWithShapes_3 : decode cX2_pairsWithShapes 3 = .ok (.istore_n 3, 1) := by decide +kernel
theorem dX2_pairsWithShapes_4 : decode cX2_pairsWithShapes 4 = .ok (.iload_n 3, 1) := by decide +kernel
theorem dX2_pairsWithShapes_5 : decode cX2_pairsWithShapes 5 = .ok (.bipush 100, 2) := by decide +kernel
theorem dX2_pairsWithShapes_7 : decode cX2_pairsWithShapes 7 = .ok (.if_icmp .ge 21, 3) := by decide +kernel
theorem dX2_pairsWithShapes_10 : decode cX2_pairsWithShapes 10 = .ok (.aload_n 0, 1) := by decide +kernel
theorem dX2_pairsWithShapes_11 : decode cX2_pairsWithShapes 11 = .ok (.iload_n 3, 1) := by decide +kernel
theorem dX2_pairsWithShapes_12 : decode cX2_pairsWithShapes 12 = .ok (.invokevirtual 73, 3) := by decide +kernel
theorem dX2_pairsWithShapes_15 : decode cX2_pairsWithShapes 15 = .ok (.iload_n 1, 1) := by decide +kernel
theorem dX2_pairsWithShapes_16 : decode cX2_pairsWithShapes 16 = .ok (.if_icmp .ne 6, 3) := by decide +kernel
theorem dX2_pairsWithShapes_19 : decode cX2_pairsWithShapes 19 = .ok (.iinc 2 1, 3) := by decide +kernel
theorem dX2_pairsWithShapes_22 : decode cX2_pairsWithShapes 22 = .ok (.iinc 3 1, 3) := by decide +kernel
theorem dX2_pairsWithShapes_25 : decode cX2_pairsWithShapes 25 = .ok (.goto (-21), 3) := by decide +kernel
theorem dX2_pairsWithShapes_28 : decode cX2_pairsWithShapes 28 = .ok (.iload_n 2, 1) := by decide +kernel
theorem dX2_pairsWithShapes_29 : decode cX2_pairsWithShapes 29 = .ok (.ireturn, 1) := by decide +kernel
theorem dX2_learntPairsWithShapes_0 : decode cX2_learntPairsWithShapes 0 = .ok (.iconst 0, 1) := by decide +kernel
theorem dX2_learntPairsWithShapes_1 : decode cX2_learntPairsWithShapes 1 = .ok (.istore_n 2, 1) := by decide +kernel
theorem dX2_learntPairsWithShapes_2 : decode cX2_learntPairsWithShapes 2 = .ok (.iconst 0, 1) := by decide +kernel
theorem dX2_learntPairsWithShapes_3 : decode cX2_learntPairsWithShapes 3 = .ok (.istore_n 3, 1) := by decide +kernel
theorem dX2_learntPairsWithShapes_4 : decode cX2_learntPairsWithShapes 4 = .ok (.iload_n 3, 1) := by decide +kernel
theorem dX2_learntPairsWithShapes_5 : decode cX2_learntPairsWithShapes 5 = .ok (.aload_n 0, 1) := by decide +kernel
theorem dX2_learntPairsWithShapes_6 : decode cX2_learntPairsWithShapes 6 = .ok (.getfield 40, 3) := by decide +kernel
theorem dX2_learntPairsWithShapes_9 : decode cX2_learntPairsWithShapes 9 = .ok (.getfield 77, 3) := by decide +kernel
theorem dX2_learntPairsWithShapes_12 : decode cX2_learntPairsWithShapes 12 = .ok (.if_icmp .ge 29, 3) := by decide +kernel
theorem dX2_learntPairsWithShapes_15 : decode cX2_learntPairsWithShapes 15 = .ok (.aload_n 0, 1) := by decide +kernel
theorem dX2_learntPairsWithShapes_16 : decode cX2_learntPairsWithShapes 16 = .ok (.aload_n 0, 1) := by decide +kernel
theorem dX2_learntPairsWithShapes_17 : decode cX2_learntPairsWithShapes 17 = .ok (.getfield 40, 3) := by decide +kernel
theorem dX2_learntPairsWithShapes_20 : decode cX2_learntPairsWithShapes 20 = .ok (.getfield 80, 3) := by decide +kernel
theorem dX2_learntPairsWithShapes_23 : decode cX2_learntPairsWithShapes 23 = .ok (.iload_n 3, 1) := by decide +kernel
theorem dX2_learntPairsWithShapes_24 : decode cX2_learntPairsWithShapes 24 = .ok (.iaload, 1) := by decide +kernel
theorem dX2_learntPairsWithShapes_25 : decode cX2_learntPairsWithShapes 25 = .ok (.invokevirtual 73, 3) := by decide +kernel
theorem dX2_learntPairsWithShapes_28 : decode cX2_learntPairsWithShapes 28 = .ok (.iload_n 1, 1) := by decide +kernel
theorem dX2_learntPairsWithShapes_29 : decode cX2_learntPairsWithShapes 29 = .ok (.if_icmp .ne 6, 3) := by decide +kernel
theorem dX2_learntPairsWithShapes_32 : decode cX2_learntPairsWithShapes 32 = .ok (.iinc 2 1, 3) := by decide +kernel
theorem dX2_learntPairsWithShapes_35 : decode cX2_learntPairsWithShapes 35 = .ok (.iinc 3 1, 3) := by decide +kernel
theorem dX2_learntPairsWithShapes_38 : decode cX2_learntPairsWithShapes 38 = .ok (.goto (-34), 3) := by decide +kernel
theorem dX2_learntPairsWithShapes_41 : decode cX2_learntPairsWithShapes 41 = .ok (.iload_n 2, 1) := by decide +kernel
theorem dX2_learntPairsWithShapes_42 : decode cX2_learntPairsWithShapes 42 = .ok (.ireturn, 1) := by decide +kernel
theorem dX2_shapesOffTheirBase_0 : decode cX2_shapesOffTheirBase 0 = .ok (.iconst 0, 1) := by decide +kernel
theorem dX2_shapesOffTheirBase_1 : decode cX2_shapesOffTheirBase 1 = .ok (.istore_n 1, 1) := by decide +kernel
theorem dX2_shapesOffTheirBase_2 : decode cX2_shapesOffTheirBase 2 = .ok (.iconst 0, 1) := by decide +kernel
theorem dX2_shapesOffTheirBase_3 : decode cX2_shapesOffTheirBase 3 = .ok (.istore_n 2, 1) := by decide +kernel
theorem dX2_shapesOffTheirBase_4 : decode cX2_shapesOffTheirBase 4 = .ok (.iload_n 2, 1) := by decide +kernel
theorem dX2_shapesOffTheirBase_5 : decode cX2_shapesOffTheirBase 5 = .ok (.bipush 16, 2) := by decide +kernel
theorem dX2_shapesOffTheirBase_7 : decode cX2_shapesOffTheirBase 7 = .ok (.if_icmp .ge 30, 3) := by decide +kernel
theorem dX2_shapesOffTheirBase_10 : decode cX2_shapesOffTheirBase 10 = .ok (.aload_n 0, 1) := by decide +kernel
theorem dX2_shapesOffTheirBase_11 : decode cX2_shapesOffTheirBase 11 = .ok (.getfield 40, 3) := by decide +kernel
theorem dX2_shapesOffTheirBase_14 : decode cX2_shapesOffTheirBase 14 = .ok (.getfield 83, 3) := by decide +kernel
theorem dX2_shapesOffTheirBase_17 : decode cX2_shapesOffTheirBase 17 = .ok (.iload_n 2, 1) := by decide +kernel
theorem dX2_shapesOffTheirBase_18 : decode cX2_shapesOffTheirBase 18 = .ok (.iaload, 1) := by decide +kernel
theorem dX2_shapesOffTheirBase_19 : decode cX2_shapesOffTheirBase 19 = .ok (.aload_n 0, 1) := by decide +kernel
theorem dX2_shapesOffTheirBase_20 : decode cX2_shapesOffTheirBase 20 = .ok (.getfield 21, 3) := by decide +kernel
theorem dX2_shapesOffTheirBase_23 : decode cX2_shapesOffTheirBase 23 = .ok (.iload_n 2, 1) := by decide +kernel
theorem dX2_shapesOffTheirBase_24 : decode cX2_shapesOffTheirBase 24 = .ok (.iaload, 1) := by decide +kernel
theorem dX2_shapesOffTheirBase_25 : decode cX2_shapesOffTheirBase 25 = .ok (.if_icmp .eq 6, 3) := by decide +kernel
theorem dX2_shapesOffTheirBase_28 : decode cX2_shapesOffTheirBase 28 = .ok (.iinc 1 1, 3) := by decide +kernel
theorem dX2_shapesOffTheirBase_31 : decode cX2_shapesOffTheirBase 31 = .ok (.iinc 2 1, 3) := by decide +kernel
theorem dX2_shapesOffTheirBase_34 : decode cX2_shapesOffTheirBase 34 = .ok (.goto (-30), 3) := by decide +kernel
theorem dX2_shapesOffTheirBase_37 : decode cX2_shapesOffTheirBase 37 = .ok (.iload_n 1, 1) := by decide +kernel
theorem dX2_shapesOffTheirBase_38 : decode cX2_shapesOffTheirBase 38 = .ok (.ireturn, 1) := by decide +kernel
theorem dX3_init_0 : decode cX3_init 0 = .ok (.aload_n 0, 1) := by decide +kernel
theorem dX3_init_1 : decode cX3_init 1 = .ok (.invokespecial 3, 3) := by decide +kernel
theorem dX3_init_4 : decode cX3_init 4 = .ok (.aload_n 0, 1) := by decide +kernel
theorem dX3_init_5 : decode cX3_init 5 = .ok (.bipush 16, 2) := by decide +kernel
theorem dX3_init_7 : decode cX3_init 7 = .ok (.newarray .int, 2) := by decide +kernel
theorem dX3_init_9 : decode cX3_init 9 = .ok (.putfield 9, 3) := by decide +kernel
theorem dX3_init_12 : decode cX3_init 12 = .ok (.aload_n 0, 1) := by decide +kernel
theorem dX3_init_13 : decode cX3_init 13 = .ok (.bipush 100, 2) := by decide +kernel
theorem dX3_init_15 : decode cX3_init 15 = .ok (.newarray .int, 2) := by decide +kernel
theorem dX3_init_17 : decode cX3_init 17 = .ok (.putfield 15, 3) := by decide +kernel
theorem dX3_init_20 : decode cX3_init 20 = .ok (.aload_n 0, 1) := by decide +kernel
theorem dX3_init_21 : decode cX3_init 21 = .ok (.bipush 100, 2) := by decide +kernel
theorem dX3_init_23 : decode cX3_init 23 = .ok (.newarray .int, 2) := by decide +kernel
theorem dX3_init_25 : decode cX3_init 25 = .ok (.putfield 18, 3) := by decide +kernel
theorem dX3_init_28 : decode cX3_init 28 = .ok (.aload_n 0, 1) := by decide +kernel
theorem dX3_init_29 : decode cX3_init 29 = .ok (.bipush 100, 2) := by decide +kernel
theorem dX3_init_31 : decode cX3_init 31 = .ok (.newarray .int, 2) := by decide +kernel
theorem dX3_init_33 : decode cX3_init 33 = .ok (.putfield 21, 3) := by decide +kernel
theorem dX3_init_36 : decode cX3_init 36 = .ok (.aload_n 0, 1) := by decide +kernel
theorem dX3_init_37 : decode cX3_init 37 = .ok (.bipush 100, 2) := by decide +kernel
theorem dX3_init_39 : decode cX3_init 39 = .ok (.newarray .int, 2) := by decide +kernel
theorem dX3_init_41 : decode cX3_init 41 = .ok (.putfield 24, 3) := by decide +kernel
theorem dX3_init_44 : decode cX3_init 44 = .ok (.aload_n 0, 1) := by decide +kernel
theorem dX3_init_45 : decode cX3_init 45 = .ok (.bipush 100, 2) := by decide +kernel
theorem dX3_init_47 : decode cX3_init 47 = .ok (.newarray .int, 2) := by decide +kernel
theorem dX3_init_49 : decode cX3_init 49 = .ok (.putfield 27, 3) := by decide +kernel
theorem dX3_init_52 : decode cX3_init 52 = .ok (.aload_n 0, 1) := by decide +kernel
theorem dX3_init_53 : decode cX3_init 53 = .ok (.iconst 0, 1) := by decide +kernel
theorem dX3_init_54 : decode cX3_init 54 = .ok (.putfield 30, 3) := by decide +kernel
theorem dX3_init_57 : decode cX3_init 57 = .ok (.aload_n 0, 1) := by decide +kernel
theorem dX3_init_58 : decode cX3_init 58 = .ok (.bipush 40, 2) := by decide +kernel
theorem dX3_init_60 : decode cX3_init 60 = .ok (.newarray .int, 2) := by decide +kernel
theorem dX3_init_62 : decode cX3_init 62 = .ok (.putfield 34, 3) := by decide +kernel
theorem dX3_init_65 : decode cX3_init 65 = .ok (.return_, 1) := by decide +kernel
theorem dX3_becomeLike_0 : decode cX3_becomeLike 0 = .ok (.aload_n 1, 1) := by decide +kernel
theorem dX3_becomeLike_1 : decode cX3_becomeLike 1 = .ok (.getfield 9, 3) := by decide +kernel
theorem dX3_becomeLike_4 : decode cX3_becomeLike 4 = .ok (.iconst 0, 1) := by decide +kernel
theorem dX3_becomeLike_5 : decode cX3_becomeLike 5 = .ok (.aload_n 0, 1) := by decide +kernel
theorem dX3_becomeLike_6 : decode cX3_becomeLike 6 = .ok (.getfield 9, 3) := by decide +kernel
theorem dX3_becomeLike_9 : decode cX3_becomeLike 9 = .ok (.iconst 0, 1) := by decide +kernel
theorem dX3_becomeLike_10 : decode cX3_becomeLike 10 = .ok (.bipush 16, 2) := by decide +kernel
theorem dX3_becomeLike_12 : decode cX3_becomeLike 12 = .ok (.invokestatic 37, 3) := by decide +kernel
theorem dX3_becomeLike_15 : decode cX3_becomeLike 15 = .ok (.aload_n 1, 1) := by decide +kernel
theorem dX3_becomeLike_16 : decode cX3_becomeLike 16 = .ok (.getfield 15, 3) := by decide +kernel
theorem dX3_becomeLike_19 : decode cX3_becomeLike 19 = .ok (.iconst 0, 1) := by decide +kernel
theorem dX3_becomeLike_20 : decode cX3_becomeLike 20 = .ok (.aload_n 0, 1) := by decide +kernel
theorem dX3_becomeLike_21 : decode cX3_becomeLike 21 = .ok (.getfield 15, 3) := by decide +kernel
theorem dX3_becomeLike_24 : decode cX3_becomeLike 24 = .ok (.iconst 0, 1) := by decide +kernel
theorem dX3_becomeLike_25 : decode cX3_becomeLike 25 = .ok (.bipush 100, 2) := by decide +kernel
theorem dX3_becomeLike_27 : decode cX3_becomeLike 27 = .ok (.invokestatic 37, 3) := by decide +kernel
theorem dX3_becomeLike_30 : decode cX3_becomeLike 30 = .ok (.aload_n 1, 1) := by decide +kernel
theorem dX3_becomeLike_31 : decode cX3_becomeLike 31 = .ok (.getfield 18, 3) := by decide +kernel
theorem dX3_becomeLike_34 : decode cX3_becomeLike 34 = .ok (.iconst 0, 1) := by decide +kernel
theorem dX3_becomeLike_35 : decode cX3_becomeLike 35 = .ok (.aload_n 0, 1) := by decide +kernel
theorem dX3_becomeLike_36 : decode cX3_becomeLike 36 = .ok (.getfield 18, 3) := by decide +kernel
theorem dX3_becomeLike_39 : decode cX3_becomeLike 39 = .ok (.iconst 0, 1) := by decide +kernel
theorem dX3_becomeLike_40 : decode cX3_becomeLike 40 = .ok (.bipush 100, 2) := by decide +kernel
theorem dX3_becomeLike_42 : decode cX3_becomeLike 42 = .ok (.invokestatic 37, 3) := by decide +kernel
theorem dX3_becomeLike_45 : decode cX3_becomeLike 45 = .ok (.aload_n 1, 1) := by decide +kernel
theorem dX3_becomeLike_46 : decode cX3_becomeLike 46 = .ok (.getfield 21, 3) := by decide +kernel
theorem dX3_becomeLike_49 : decode cX3_becomeLike 49 = .ok (.iconst 0, 1) := by decide +kernel
theorem dX3_becomeLike_50 : decode cX3_becomeLike 50 = .ok (.aload_n 0, 1) := by decide +kernel
theorem dX3_becomeLike_51 : decode cX3_becomeLike 51 = .ok (.getfield 21, 3) := by decide +kernel
theorem dX3_becomeLike_54 : decode cX3_becomeLike 54 = .ok (.iconst 0, 1) := by decide +kernel
theorem dX3_becomeLike_55 : decode cX3_becomeLike 55 = .ok (.bipush 100, 2) := by decide +kernel
theorem dX3_becomeLike_57 : decode cX3_becomeLike 57 = .ok (.invokestatic 37, 3) := by decide +kernel
theorem dX3_becomeLike_60 : decode cX3_becomeLike 60 = .ok (.aload_n 1, 1) := by decide +kernel
theorem dX3_becomeLike_61 : decode cX3_becomeLike 61 = .ok (.getfield 24, 3) := by decide +kernel
theorem dX3_becomeLike_64 : decode cX3_becomeLike 64 = .ok (.iconst 0, 1) := by decide +kernel
theorem dX3_becomeLike_65 : decode cX3_becomeLike 65 = .ok (.aload_n 0, 1) := by decide +kernel
theorem dX3_becomeLike_66 : decode cX3_becomeLike 66 = .ok (.getfield 24, 3) := by decide +kernel
theorem dX3_becomeLike_69 : decode cX3_becomeLike 69 = .ok (.iconst 0, 1) := by decide +kernel
theorem dX3_becomeLike_70 : decode cX3_becomeLike 70 = .ok (.bipush 100, 2) := by decide +kernel
theorem dX3_becomeLike_72 : decode cX3_becomeLike 72 = .ok (.invokestatic 37, 3) := by decide +kernel
theorem dX3_becomeLike_75 : decode cX3_becomeLike 75 = .ok (.aload_n 1, 1) := by decide +kernel
theorem dX3_becomeLike_76 : decode cX3_becomeLike 76 = .ok (.getfield 27, 3) := by decide +kernel
theorem dX3_becomeLike_79 : decode cX3_becomeLike 79 = .ok (.iconst 0, 1) := by decide +kernel
theorem dX3_becomeLike_80 : decode cX3_becomeLike 80 = .ok (.aload_n 0, 1) := by decide +kernel
theorem dX3_becomeLike_81 : decode cX3_becomeLike 81 = .ok (.getfield 27, 3) := by decide +kernel
theorem dX3_becomeLike_84 : decode cX3_becomeLike 84 = .ok (.iconst 0, 1) := by decide +kernel
theorem dX3_becomeLike_85 : decode cX3_becomeLike 85 = .ok (.bipush 100, 2) := by decide +kernel
theorem dX3_becomeLike_87 : decode cX3_becomeLike 87 = .ok (.invokestatic 37, 3) := by decide +kernel
theorem dX3_becomeLike_90 : decode cX3_becomeLike 90 = .ok (.aload_n 0, 1) := by decide +kernel
theorem dX3_becomeLike_91 : decode cX3_becomeLike 91 = .ok (.aload_n 1, 1) := by decide +kernel
theorem dX3_becomeLike_92 : decode cX3_becomeLike 92 = .ok (.getfield 30, 3) := by decide +kernel
theorem dX3_becomeLike_95 : decode cX3_becomeLike 95 = .ok (.putfield 30, 3) := by decide +kernel
theorem dX3_becomeLike_98 : decode cX3_becomeLike 98 = .ok (.aload_n 1, 1) := by decide +kernel
theorem dX3_becomeLike_99 : decode cX3_becomeLike 99 = .ok (.getfield 34, 3) := by decide +kernel
theorem dX3_becomeLike_102 : decode cX3_becomeLike 102 = .ok (.iconst 0, 1) := by decide +kernel
theorem dX3_becomeLike_103 : decode cX3_becomeLike 103 = .ok (.aload_n 0, 1) := by decide +kernel
theorem dX3_becomeLike_104 : decode cX3_becomeLike 104 = .ok (.getfield 34, 3) := by decide +kernel
theorem dX3_becomeLike_107 : decode cX3_becomeLike 107 = .ok (.iconst 0, 1) := by decide +kernel
theorem dX3_becomeLike_108 : decode cX3_becomeLike 108 = .ok (.bipush 40, 2) := by decide +kernel
theorem dX3_becomeLike_110 : decode cX3_becomeLike 110 = .ok (.invokestatic 37, 3) := by decide +kernel
theorem dX3_becomeLike_113 : decode cX3_becomeLike 113 = .ok (.return_, 1) := by decide +kernel
theorem dX3_kerningOfPair_0 : decode cX3_kerningOfPair 0 = .ok (.aload_n 0, 1) := by decide +kernel
theorem dX3_kerningOfPair_1 : decode cX3_kerningOfPair 1 = .ok (.getfield 9, 3) := by decide +kernel
theorem dX3_kerningOfPair_4 : decode cX3_kerningOfPair 4 = .ok (.aload_n 1, 1) := by decide +kernel
theorem dX3_kerningOfPair_5 : decode cX3_kerningOfPair 5 = .ok (.iload_n 2, 1) := by decide +kernel
theorem dX3_kerningOfPair_6 : decode cX3_kerningOfPair 6 = .ok (.invokevirtual 43, 3) := by decide +kernel
theorem dX3_kerningOfPair_9 : decode cX3_kerningOfPair 9 = .ok (.iaload, 1) := by decide +kernel
theorem dX3_kerningOfPair_10 : decode cX3_kerningOfPair 10 = .ok (.aload_n 0, 1) := by decide +kernel
theorem dX3_kerningOfPair_11 : decode cX3_kerningOfPair 11 = .ok (.getfield 15, 3) := by decide +kernel
theorem dX3_kerningOfPair_14 : decode cX3_kerningOfPair 14 = .ok (.iload_n 2, 1) := by decide +kernel
theorem dX3_kerningOfPair_15 : decode cX3_kerningOfPair 15 = .ok (.iaload, 1) := by decide +kernel
theorem dX3_kerningOfPair_16 : decode cX3_kerningOfPair 16 = .ok (.iadd, 1) := by decide +kernel
theorem dX3_kerningOfPair_17 : decode cX3_kerningOfPair 17 = .ok (.ireturn, 1) := by decide +kernel
theorem dX3_learnAllBut_0 : decode cX3_learnAllBut 0 = .ok (.aload_n 1, 1) := by decide +kernel
theorem dX3_learnAllBut_1 : decode cX3_learnAllBut 1 = .ok (.getfield 49, 3) := by decide +kernel
theorem dX3_learnAllBut_4 : decode cX3_learnAllBut 4 = .ok (.iconst 0, 1) := by decide +kernel
theorem dX3_learnAllBut_5 : decode cX3_learnAllBut 5 = .ok (.aload_n 0, 1) := by decide +kernel
theorem dX3_learnAllBut_6 : decode cX3_learnAllBut 6 = .ok (.getfield 9, 3) := by decide +kernel
theorem dX3_learnAllBut_9 : decode cX3_learnAllBut 9 = .ok (.iconst 0, 1) := by decide +kernel
theorem dX3_learnAllBut_10 : decode cX3_learnAllBut 10 = .ok (.bipush 16, 2) := by decide +kernel
theorem dX3_learnAllBut_12 : decode cX3_learnAllBut 12 = .ok (.invokestatic 37, 3) := by decide +kernel
theorem dX3_learnAllBut_15 : decode cX3_learnAllBut 15 = .ok (.aload_n 0, 1) := by decide +kernel
theorem dX3_learnAllBut_16 : decode cX3_learnAllBut 16 = .ok (.getfield 15, 3) := by decide +kernel
theorem dX3_learnAllBut_19 : decode cX3_learnAllBut 19 = .ok (.iconst 0, 1) := by decide +kernel
theorem dX3_learnAllBut_20 : decode cX3_learnAllBut 20 = .ok (.invokestatic 52, 3) := by decide +kernel
theorem dX3_learnAllBut_23 : decode cX3_learnAllBut 23 = .ok (.aload_n 0, 1) := by decide +kernel
theorem dX3_learnAllBut_24 : decode cX3_learnAllBut 24 = .ok (.getfield 18, 3) := by decide +kernel
theorem dX3_learnAllBut_27 : decode cX3_learnAllBut 27 = .ok (.iconst 0, 1) := by decide +kernel
theorem dX3_learnAllBut_28 : decode cX3_learnAllBut 28 = .ok (.invokestatic 52, 3) := by decide +kernel
theorem dX3_learnAllBut_31 : decode cX3_learnAllBut 31 = .ok (.aload_n 0, 1) := by decide +kernel
theorem dX3_learnAllBut_32 : decode cX3_learnAllBut 32 = .ok (.getfield 21, 3) := by decide +kernel
theorem dX3_learnAllBut_35 : decode cX3_learnAllBut 35 = .ok (.iconst 0, 1) := by decide +kernel
theorem dX3_learnAllBut_36 : decode cX3_learnAllBut 36 = .ok (.invokestatic 52, 3) := by decide +kernel
theorem dX3_learnAllBut_39 : decode cX3_learnAllBut 39 = .ok (.aload_n 0, 1) := by decide +kernel
theorem dX3_learnAllBut_40 : decode cX3_learnAllBut 40 = .ok (.getfield 24, 3) := by decide +kernel
theorem dX3_learnAllBut_43 : decode cX3_learnAllBut 43 = .ok (.iconst 0, 1) := by decide +kernel
theorem dX3_learnAllBut_44 : decode cX3_learnAllBut 44 = .ok (.invokestatic 52, 3) := by decide +kernel
theorem dX3_learnAllBut_47 : decode cX3_learnAllBut 47 = .ok (.aload_n 0, 1) := by decide +kernel
theorem dX3_learnAllBut_48 : decode cX3_learnAllBut 48 = .ok (.iconst 0, 1) := by decide +kernel
theorem dX3_learnAllBut_49 : decode cX3_learnAllBut 49 = .ok (.putfield 30, 3) := by decide +kernel
theorem dX3_learnAllBut_52 : decode cX3_learnAllBut 52 = .ok (.aload_n 0, 1) := by decide +kernel
theorem dX3_learnAllBut_53 : decode cX3_learnAllBut 53 = .ok (.getfield 34, 3) := by decide +kernel
theorem dX3_learnAllBut_56 : decode cX3_learnAllBut 56 = .ok (.iconst 0, 1) := by decide +kernel
theorem dX3_learnAllBut_57 : decode cX3_learnAllBut 57 = .ok (.invokestatic 52, 3) := by decide +kernel
theorem dX3_learnAllBut_60 : decode cX3_learnAllBut 60 = .ok (.iconst 0, 1) := by decide +kernel
theorem dX3_learnAllBut_61 : decode cX3_learnAllBut 61 = .ok (.istore_n 3, 1) := by decide +kernel
theorem dX3_learnAllBut_62 : decode cX3_learnAllBut 62 = .ok (.iload_n 3, 1) := by decide +kernel
theorem dX3_learnAllBut_63 : decode cX3_learnAllBut 63 = .ok (.aload_n 1, 1) := by decide +kernel
theorem dX3_learnAllBut_64 : decode cX3_learnAllBut 64 = .ok (.getfield 58, 3) := by decide +kernel
theorem dX3_learnAllBut_67 : decode cX3_learnAllBut 67 = .ok (.if_icmp .ge 45, 3) := by decide +kernel
theorem dX3_learnAllBut_70 : decode cX3_learnAllBut 70 = .ok (.iload_n 3, 1) := by decide +kernel
theorem dX3_learnAllBut_71 : decode cX3_learnAllBut 71 = .ok (.iload_n 2, 1) := by decide +kernel
theorem dX3_learnAllBut_72 : decode cX3_learnAllBut 72 = .ok (.if_icmp .eq 34, 3) := by decide +kernel
theorem dX3_learnAllBut_75 : decode cX3_learnAllBut 75 = .ok (.aload_n 0, 1) := by decide +kernel
theorem dX3_learnAllBut_76 : decode cX3_learnAllBut 76 = .ok (.getfield 34, 3) := by decide +kernel
theorem dX3_learnAllBut_79 : decode cX3_learnAllBut 79 = .ok (.iload_n 3, 1) := by decide +kernel
theorem dX3_learnAllBut_80 : decode cX3_learnAllBut 80 = .ok (.aload_n 0, 1) := by decide +kernel
theorem dX3_learnAllBut_81 : decode cX3_learnAllBut 81 = .ok (.aload_n 1, 1) := by decide +kernel
theorem dX3_learnAllBut_82 : decode cX3_learnAllBut 82 = .ok (.aload_n 1, 1) := by decide +kernel
theorem dX3_learnAllBut_83 : decode cX3_learnAllBut 83 = .ok (.getfield 61, 3) := by decide +kernel
theorem dX3_learnAllBut_86 : decode cX3_learnAllBut 86 = .ok (.iload_n 3, 1) := by decide +kernel
theorem dX3_learnAllBut_87 : decode cX3_learnAllBut 87 = .ok (.iaload, 1) := by decide +kernel
theorem dX3_learnAllBut_88 : decode cX3_learnAllBut 88 = .ok (.aload_n 1, 1) := by decide +kernel
theorem dX3_learnAllBut_89 : decode cX3_learnAllBut 89 = .ok (.getfield 64, 3) := by decide +kernel
theorem dX3_learnAllBut_92 : decode cX3_learnAllBut 92 = .ok (.iload_n 3, 1) := by decide +kernel
theorem dX3_learnAllBut_93 : decode cX3_learnAllBut 93 = .ok (.iaload, 1) := by decide +kernel
theorem dX3_learnAllBut_94 : decode cX3_learnAllBut 94 = .ok (.invokevirtual 67, 3) := by decide +kernel
theorem dX3_learnAllBut_97 : decode cX3_learnAllBut 97 = .ok (.ifCond .eq 7, 3) := by decide +kernel
theorem dX3_learnAllBut_100 : decode cX3_learnAllBut 100 = .ok (.iconst 0, 1) := by decide +kernel
theorem dX3_learnAllBut_101 : decode cX3_learnAllBut 101 = .ok (.goto 4, 3) := by decide +kernel
theorem dX3_learnAllBut_104 : decode cX3_learnAllBut 104 = .ok (.iconst 1, 1) := by decide +kernel
theorem dX3_learnAllBut_105 : decode cX3_learnAllBut 105 = .ok (.iastore, 1) := by decide +kernel
theorem dX3_learnAllBut_106 : decode cX3_learnAllBut 106 = .ok (.iinc 3 1, 3) := by decide +kernel
theorem dX3_learnAllBut_109 : decode cX3_learnAllBut 109 = .ok (.goto (-47), 3) := by decide +kernel
theorem dX3_learnAllBut_112 : decode cX3_learnAllBut 112 = .ok (.return_, 1) := by decide +kernel
theorem dX3_learn_0 : decode cX3_learn 0 = .ok (.aload_n 0, 1) := by decide +kernel
theorem dX3_learn_1 : decode cX3_learn 1 = .ok (.aload_n 1, 1) := by decide +kernel
theorem dX3_learn_2 : decode cX3_learn 2 = .ok (.iload_n 2, 1) := by decide +kernel
theorem dX3_learn_3 : decode cX3_learn 3 = .ok (.invokevirtual 71, 3) := by decide +kernel
theorem dX3_learn_6 : decode cX3_learn 6 = .ok (.istore 4, 2) := by decide +kernel
theorem dX3_learn_8 : decode cX3_learn 8 = .ok (.iload 4, 2) := by decide +kernel
theorem dX3_learn_10 : decode cX3_learn 10 = .ok (.iload_n 3, 1) := by decide +kernel
theorem dX3_learn_11 : decode cX3_learn 11 = .ok (.imul, 1) := by decide +kernel
theorem dX3_learn_12 : decode cX3_learn 12 = .ok (.bipush 12, 2) := by decide +kernel
theorem dX3_learn_14 : decode cX3_learn 14 = .ok (.if_icmp .lt 5, 3) := by decide +kernel
theorem dX3_learn_17 : decode cX3_learn 17 = .ok (.iconst 0, 1) := by decide +kernel
theorem dX3_learn_18 : decode cX3_learn 18 = .ok (.ireturn, 1) := by decide +kernel
theorem dX3_learn_19 : decode cX3_learn 19 = .ok (.aload_n 0, 1) := by decide +kernel
theorem dX3_learn_20 : decode cX3_learn 20 = .ok (.getfield 24, 3) := by decide +kernel
theorem dX3_learn_23 : decode cX3_learn 23 = .ok (.iload_n 2, 1) := by decide +kernel
theorem dX3_learn_24 : decode cX3_learn 24 = .ok (.iaload, 1) := by decide +kernel
theorem dX3_learn_25 : decode cX3_learn 25 = .ok (.ifCond .ne 38, 3) := by decide +kernel
theorem dX3_learn_28 : decode cX3_learn 28 = .ok (.aload_n 0, 1) := by decide +kernel
theorem dX3_learn_29 : decode cX3_learn 29 = .ok (.getfield 18, 3) := by decide +kernel
theorem dX3_learn_32 : decode cX3_learn 32 = .ok (.iload_n 2, 1) := by decide +kernel
theorem dX3_learn_33 : decode cX3_learn 33 = .ok (.aload_n 1, 1) := by decide +kernel
theorem dX3_learn_34 : decode cX3_learn 34 = .ok (.getfield 75, 3) := by decide +kernel
theorem dX3_learn_37 : decode cX3_learn 37 = .ok (.iconst 0, 1) := by decide +kernel
theorem dX3_learn_38 : decode cX3_learn 38 = .ok (.iaload, 1) := by decide +kernel
theorem dX3_learn_39 : decode cX3_learn 39 = .ok (.iastore, 1) := by decide +kernel
theorem dX3_learn_40 : decode cX3_learn 40 = .ok (.aload_n 0, 1) := by decide +kernel
theorem dX3_learn_41 : decode cX3_learn 41 = .ok (.getfield 27, 3) := by decide +kernel
theorem dX3_learn_44 : decode cX3_learn 44 = .ok (.aload_n 0, 1) := by decide +kernel
theorem dX3_learn_45 : decode cX3_learn 45 = .ok (.getfield 30, 3) := by decide +kernel
theorem dX3_learn_48 : decode cX3_learn 48 = .ok (.iload_n 2, 1) := by decide +kernel
theorem dX3_learn_49 : decode cX3_learn 49 = .ok (.iastore, 1) := by decide +kernel
theorem dX3_learn_50 : decode cX3_learn 50 = .ok (.aload_n 0, 1) := by decide +kernel
theorem dX3_learn_51 : decode cX3_learn 51 = .ok (.dup, 1) := by decide +kernel
theorem dX3_learn_52 : decode cX3_learn 52 = .ok (.getfield 30, 3) := by decide +kernel
theorem dX3_learn_55 : decode cX3_learn 55 = .ok (.iconst 1, 1) := by decide +kernel
theorem dX3_learn_56 : decode cX3_learn 56 = .ok (.iadd, 1) := by decide +kernel
theorem dX3_learn_57 : decode cX3_learn 57 = .ok (.putfield 30, 3) := by decide +kernel
theorem dX3_learn_60 : decode cX3_learn 60 = .ok (.goto 31, 3) := by decide +kernel
theorem dX3_learn_63 : decode cX3_learn 63 = .ok (.aload_n 0, 1) := by decide +kernel
theorem dX3_learn_64 : decode cX3_learn 64 = .ok (.getfield 21, 3) := by decide +kernel
theorem dX3_learn_67 : decode cX3_learn 67 = .ok (.iload_n 2, 1) := by decide +kernel
theorem dX3_learn_68 : decode cX3_learn 68 = .ok (.iaload, 1) := by decide +kernel
theorem dX3_learn_69 : decode cX3_learn 69 = .ok (.iload_n 3, 1) := by decide +kernel
theorem dX3_learn_70 : decode cX3_learn 70 = .ok (.if_icmp .eq 21, 3) := by decide +kernel
theorem dX3_learn_73 : decode cX3_learn 73 = .ok (.aload_n 0, 1) := by decide +kernel
theorem dX3_learn_74 : decode cX3_learn 74 = .ok (.getfield 18, 3) := by decide +kernel
theorem dX3_learn_77 : decode cX3_learn 77 = .ok (.iload_n 2, 1) := by decide +kernel
theorem dX3_learn_78 : decode cX3_learn 78 = .ok (.iconst 1, 1) := by decide +kernel
theorem dX3_learn_79 : decode cX3_learn 79 = .ok (.aload_n 0, 1) := by decide +kernel
theorem dX3_learn_80 : decode cX3_learn 80 = .ok (.getfield 18, 3) := by decide +kernel
theorem dX3_learn_83 : decode cX3_learn 83 = .ok (.iload_n 2, 1) := by decide +kernel
theorem dX3_learn_84 : decode cX3_learn 84 = .ok (.iaload, 1) := by decide +kernel
theorem dX3_learn_85 : decode cX3_learn 85 = .ok (.iconst 2, 1) := by decide +kernel
theorem dX3_learn_86 : decode cX3_learn 86 = .ok (.idiv, 1) := by decide +kernel
theorem dX3_learn_87 : decode cX3_learn 87 = .ok (.invokestatic 78, 3) := by decide +kernel
theorem dX3_learn_90 : decode cX3_learn 90 = .ok (.iastore, 1) := by decide +kernel
theorem dX3_learn_91 : decode cX3_learn 91 = .ok (.aload_n 0, 1) := by decide +kernel
theorem dX3_learn_92 : decode cX3_learn 92 = .ok (.getfield 21, 3) := by decide +kernel
theorem dX3_learn_95 : decode cX3_learn 95 = .ok (.iload_n 2, 1) := by decide +kernel
theorem dX3_learn_96 : decode cX3_learn 96 = .ok (.iload_n 3, 1) := by decide +kernel
theorem dX3_learn_97 : decode cX3_learn 97 = .ok (.iastore, 1) := by decide +kernel
theorem dX3_learn_98 : decode cX3_learn 98 = .ok (.aload_n 0, 1) := by decide +kernel
theorem dX3_learn_99 : decode cX3_learn 99 = .ok (.getfield 24, 3) := by decide +kernel
theorem dX3_learn_102 : decode cX3_learn 102 = .ok (.iload_n 2, 1) := by decide +kernel
theorem dX3_learn_103 : decode cX3_learn 103 = .ok (.dup2, 1) := by decide +kernel
theorem dX3_learn_104 : decode cX3_learn 104 = .ok (.iaload, 1) := by decide +kernel
theorem dX3_learn_105 : decode cX3_learn 105 = .ok (.iconst 1, 1) := by decide +kernel
theorem dX3_learn_106 : decode cX3_learn 106 = .ok (.iadd, 1) := by decide +kernel
theorem dX3_learn_107 : decode cX3_learn 107 = .ok (.iastore, 1) := by decide +kernel
theorem dX3_learn_108 : decode cX3_learn 108 = .ok (.iload 4, 2) := by decide +kernel
theorem dX3_learn_110 : decode cX3_learn 110 = .ok (.iload_n 3, 1) := by decide +kernel
theorem dX3_learn_111 : decode cX3_learn 111 = .ok (.aload_n 0, 1) := by decide +kernel
theorem dX3_learn_112 : decode cX3_learn 112 = .ok (.getfield 18, 3) := by decide +kernel
theorem dX3_learn_115 : decode cX3_learn 115 = .ok (.iload_n 2, 1) := by decide +kernel
theorem dX3_learn_116 : decode cX3_learn 116 = .ok (.iaload, 1) := by decide +kernel
theorem dX3_learn_117 : decode cX3_learn 117 = .ok (.imul, 1) := by decide +kernel
theorem dX3_learn_118 : decode cX3_learn 118 = .ok (.iadd, 1) := by decide +kernel
theorem dX3_learn_119 : decode cX3_learn 119 = .ok (.istore 5, 2) := by decide +kernel
theorem dX3_learn_121 : decode cX3_learn 121 = .ok (.bipush (-12), 2) := by decide +kernel
theorem dX3_learn_123 : decode cX3_learn 123 = .ok (.bipush 12, 2) := by decide +kernel
theorem dX3_learn_125 : decode cX3_learn 125 = .ok (.iload 5, 2) := by decide +kernel
theorem dX3_learn_127 : decode cX3_learn 127 = .ok (.invokestatic 84, 3) := by decide +kernel
theorem dX3_learn_130 : decode cX3_learn 130 = .ok (.invokestatic 78, 3) := by decide +kernel
theorem dX3_learn_133 : decode cX3_learn 133 = .ok (.istore 5, 2) := by decide +kernel
theorem dX3_learn_135 : decode cX3_learn 135 = .ok (.aload_n 0, 1) := by decide +kernel
theorem dX3_learn_136 : decode cX3_learn 136 = .ok (.getfield 15, 3) := by decide +kernel
theorem dX3_learn_139 : decode cX3_learn 139 = .ok (.iload_n 2, 1) := by decide +kernel
theorem dX3_learn_140 : decode cX3_learn 140 = .ok (.dup2, 1) := by decide +kernel
theorem dX3_learn_141 : decode cX3_learn 141 = .ok (.iaload, 1) := by decide +kernel
theorem dX3_learn_142 : decode cX3_learn 142 = .ok (.iload 5, 2) := by decide +kernel
theorem dX3_learn_144 : decode cX3_learn 144 = .ok (.iload 4, 2) := by decide +kernel
theorem dX3_learn_146 : decode cX3_learn 146 = .ok (.isub, 1) := by decide +kernel
theorem dX3_learn_147 : decode cX3_learn 147 = .ok (.iadd, 1) := by decide +kernel
theorem dX3_learn_148 : decode cX3_learn 148 = .ok (.iastore, 1) := by decide +kernel
theorem dX3_learn_149 : decode cX3_learn 149 = .ok (.aload_n 1, 1) := by decide +kernel
theorem dX3_learn_150 : decode cX3_learn 150 = .ok (.iload_n 2, 1) := by decide +kernel
theorem dX3_learn_151 : decode cX3_learn 151 = .ok (.invokevirtual 43, 3) := by decide +kernel
theorem dX3_learn_154 : decode cX3_learn 154 = .ok (.istore 6, 2) := by decide +kernel
theorem dX3_learn_156 : decode cX3_learn 156 = .ok (.aload_n 0, 1) := by decide +kernel
theorem dX3_learn_157 : decode cX3_learn 157 = .ok (.getfield 9, 3) := by decide +kernel
theorem dX3_learn_160 : decode cX3_learn 160 = .ok (.iload 6, 2) := by decide +kernel
theorem dX3_learn_162 : decode cX3_learn 162 = .ok (.iaload, 1) := by decide +kernel
theorem dX3_learn_163 : decode cX3_learn 163 = .ok (.iload_n 3, 1) := by decide +kernel
theorem dX3_learn_164 : decode cX3_learn 164 = .ok (.imul, 1) := by decide +kernel
theorem dX3_learn_165 : decode cX3_learn 165 = .ok (.bipush 12, 2) := by decide +kernel
theorem dX3_learn_167 : decode cX3_learn 167 = .ok (.if_icmp .ge 7, 3) := by decide +kernel
theorem dX3_learn_170 : decode cX3_learn 170 = .ok (.iconst 1, 1) := by decide +kernel
theorem dX3_learn_171 : decode cX3_learn 171 = .ok (.goto 4, 3) := by decide +kernel
theorem dX3_learn_174 : decode cX3_learn 174 = .ok (.iconst 0, 1) := by decide +kernel
theorem dX3_learn_175 : decode cX3_learn 175 = .ok (.istore 7, 2) := by decide +kernel
theorem dX3_learn_177 : decode cX3_learn 177 = .ok (.iload 7, 2) := by decide +kernel
theorem dX3_learn_179 : decode cX3_learn 179 = .ok (.ifCond .eq 28, 3) := by decide +kernel
theorem dX3_learn_182 : decode cX3_learn 182 = .ok (.aload_n 0, 1) := by decide +kernel
theorem dX3_learn_183 : decode cX3_learn 183 = .ok (.aload_n 1, 1) := by decide +kernel
theorem dX3_learn_184 : decode cX3_learn 184 = .ok (.iload 6, 2) := by decide +kernel
theorem dX3_learn_186 : decode cX3_learn 186 = .ok (.iload_n 3, 1) := by decide +kernel
theorem dX3_learn_187 : decode cX3_learn 187 = .ok (.invokevirtual 87, 3) := by decide +kernel
theorem dX3_learn_190 : decode cX3_learn 190 = .ok (.aload_n 1, 1) := by decide +kernel
theorem dX3_learn_191 : decode cX3_learn 191 = .ok (.getfield 75, 3) := by decide +kernel
theorem dX3_learn_194 : decode cX3_learn 194 = .ok (.iconst 1, 1) := by decide +kernel
theorem dX3_learn_195 : decode cX3_learn 195 = .ok (.iaload, 1) := by decide +kernel
theorem dX3_learn_196 : decode cX3_learn 196 = .ok (.if_icmp .lt 11, 3) := by decide +kernel
theorem dX3_learn_199 : decode cX3_learn 199 = .ok (.aload_n 0, 1) := by decide +kernel
theorem dX3_learn_200 : decode cX3_learn 200 = .ok (.aload_n 1, 1) := by decide +kernel
theorem dX3_learn_201 : decode cX3_learn 201 = .ok (.iload 6, 2) := by decide +kernel
theorem dX3_learn_203 : decode cX3_learn 203 = .ok (.iload_n 3, 1) := by decide +kernel
theorem dX3_learn_204 : decode cX3_learn 204 = .ok (.invokevirtual 91, 3) := by decide +kernel
theorem dX3_learn_207 : decode cX3_learn 207 = .ok (.iconst 1, 1) := by decide +kernel
theorem dX3_learn_208 : decode cX3_learn 208 = .ok (.ireturn, 1) := by decide +kernel
theorem dX3_moveShapes_0 : decode cX3_moveShapes 0 = .ok (.aload_n 0, 1) := by decide +kernel
theorem dX3_moveShapes_1 : decode cX3_moveShapes 1 = .ok (.getfield 9, 3) := by decide +kernel
theorem dX3_moveShapes_4 : decode cX3_moveShapes 4 = .ok (.iload_n 2, 1) := by decide +kernel
theorem dX3_moveShapes_5 : decode cX3_moveShapes 5 = .ok (.dup2, 1) := by decide +kernel
theorem dX3_moveShapes_6 : decode cX3_moveShapes 6 = .ok (.iaload, 1) := by decide +kernel
theorem dX3_moveShapes_7 : decode cX3_moveShapes 7 = .ok (.iload_n 3, 1) := by decide +kernel
theorem dX3_moveShapes_8 : decode cX3_moveShapes 8 = .ok (.iadd, 1) := by decide +kernel
theorem dX3_moveShapes_9 : decode cX3_moveShapes 9 = .ok (.iastore, 1) := by decide +kernel
theorem dX3_moveShapes_10 : decode cX3_moveShapes 10 = .ok (.iconst 0, 1) := by decide +kernel
theorem dX3_moveShapes_11 : decode cX3_moveShapes 11 = .ok (.istore 4, 2) := by decide +kernel
theorem dX3_moveShapes_13 : decode cX3_moveShapes 13 = .ok (.iload 4, 2) := by decide +kernel
theorem dX3_moveShapes_15 : decode cX3_moveShapes 15 = .ok (.aload_n 0, 1) := by decide +kernel
theorem dX3_moveShapes_16 : decode cX3_moveShapes 16 = .ok (.getfield 30, 3) := by decide +kernel
theorem dX3_moveShapes_19 : decode cX3_moveShapes 19 = .ok (.if_icmp .ge 40, 3) := by decide +kernel
theorem dX3_moveShapes_22 : decode cX3_moveShapes 22 = .ok (.aload_n 1, 1) := by decide +kernel
theorem dX3_moveShapes_23 : decode cX3_moveShapes 23 = .ok (.aload_n 0, 1) := by decide +kernel
theorem dX3_moveShapes_24 : decode cX3_moveShapes 24 = .ok (.getfield 27, 3) := by decide +kernel
theorem dX3_moveShapes_27 : decode cX3_moveShapes 27 = .ok (.iload 4, 2) := by decide +kernel
theorem dX3_moveShapes_29 : decode cX3_moveShapes 29 = .ok (.iaload, 1) := by decide +kernel
theorem dX3_moveShapes_30 : decode cX3_moveShapes 30 = .ok (.invokevirtual 43, 3) := by decide +kernel
theorem dX3_moveShapes_33 : decode cX3_moveShapes 33 = .ok (.iload_n 2, 1) := by decide +kernel
theorem dX3_moveShapes_34 : decode cX3_moveShapes 34 = .ok (.if_icmp .ne 19, 3) := by decide +kernel
theorem dX3_moveShapes_37 : decode cX3_moveShapes 37 = .ok (.aload_n 0, 1) := by decide +kernel
theorem dX3_moveShapes_38 : decode cX3_moveShapes 38 = .ok (.getfield 15, 3) := by decide +kernel
theorem dX3_moveShapes_41 : decode cX3_moveShapes 41 = .ok (.aload_n 0, 1) := by decide +kernel
theorem dX3_moveShapes_42 : decode cX3_moveShapes 42 = .ok (.getfield 27, 3) := by decide +kernel
theorem dX3_moveShapes_45 : decode cX3_moveShapes 45 = .ok (.iload 4, 2) := by decide +kernel
theorem dX3_moveShapes_47 : decode cX3_moveShapes 47 = .ok (.iaload, 1) := by decide +kernel
theorem dX3_moveShapes_48 : decode cX3_moveShapes 48 = .ok (.dup2, 1) := by decide +kernel
theorem dX3_moveShapes_49 : decode cX3_moveShapes 49 = .ok (.iaload, 1) := by decide +kernel
theorem dX3_moveShapes_50 : decode cX3_moveShapes 50 = .ok (.iload_n 3, 1) := by decide +kernel
theorem dX3_moveShapes_51 : decode cX3_moveShapes 51 = .ok (.isub, 1) := by decide +kernel
theorem dX3_moveShapes_52 : decode cX3_moveShapes 52 = .ok (.iastore, 1) := by decide +kernel
theorem dX3_moveShapes_53 : decode cX3_moveShapes 53 = .ok (.iinc 4 1, 3) := by decide +kernel
theorem dX3_moveShapes_56 : decode cX3_moveShapes 56 = .ok (.goto (-43), 3) := by decide +kernel
theorem dX3_moveShapes_59 : decode cX3_moveShapes 59 = .ok (.return_, 1) := by decide +kernel
theorem dX3_pairsThatAgree_0 : decode cX3_pairsThatAgree 0 = .ok (.iconst 0, 1) := by decide +kernel
theorem dX3_pairsThatAgree_1 : decode cX3_pairsThatAgree 1 = .ok (.istore 4, 2) := by decide +kernel
theorem dX3_pairsThatAgree_3 : decode cX3_pairsThatAgree 3 = .ok (.iconst 0, 1) := by decide +kernel
theorem dX3_pairsThatAgree_4 : decode cX3_pairsThatAgree 4 = .ok (.istore 5, 2) := by decide +kernel
theorem dX3_pairsThatAgree_6 : decode cX3_pairsThatAgree 6 = .ok (.iload 5, 2) := by decide +kernel
theorem dX3_pairsThatAgree_8 : decode cX3_pairsThatAgree 8 = .ok (.aload_n 0, 1) := by decide +kernel
theorem dX3_pairsThatAgree_9 : decode cX3_pairsThatAgree 9 = .ok (.getfield 30, 3) := by decide +kernel
theorem dX3_pairsThatAgree_12 : decode cX3_pairsThatAgree 12 = .ok (.if_icmp .ge 43, 3) := by decide +kernel
theorem dX3_pairsThatAgree_15 : decode cX3_pairsThatAgree 15 = .ok (.aload_n 0, 1) := by decide +kernel
theorem dX3_pairsThatAgree_16 : decode cX3_pairsThatAgree 16 = .ok (.getfield 27, 3) := by decide +kernel
theorem dX3_pairsThatAgree_19 : decode cX3_pairsThatAgree 19 = .ok (.iload 5, 2) := by decide +kernel
theorem dX3_pairsThatAgree_21 : decode cX3_pairsThatAgree 21 = .ok (.iaload, 1) := by decide +kernel
theorem dX3_pairsThatAgree_22 : decode cX3_pairsThatAgree 22 = .ok (.istore 6, 2) := by decide +kernel
theorem dX3_pairsThatAgree_24 : decode cX3_pairsThatAgree 24 = .ok (.aload_n 0, 1) := by decide +kernel
theorem dX3_pairsThatAgree_25 : decode cX3_pairsThatAgree 25 = .ok (.getfield 15, 3) := by decide +kernel
theorem dX3_pairsThatAgree_28 : decode cX3_pairsThatAgree 28 = .ok (.iload 6, 2) := by decide +kernel
theorem dX3_pairsThatAgree_30 : decode cX3_pairsThatAgree 30 = .ok (.iaload, 1) := by decide +kernel
theorem dX3_pairsThatAgree_31 : decode cX3_pairsThatAgree 31 = .ok (.iload_n 3, 1) := by decide +kernel
theorem dX3_pairsThatAgree_32 : decode cX3_pairsThatAgree 32 = .ok (.imul, 1) := by decide +kernel
theorem dX3_pairsThatAgree_33 : decode cX3_pairsThatAgree 33 = .ok (.ifCond .le 16, 3) := by decide +kernel
theorem dX3_pairsThatAgree_36 : decode cX3_pairsThatAgree 36 = .ok (.aload_n 1, 1) := by decide +kernel
theorem dX3_pairsThatAgree_37 : decode cX3_pairsThatAgree 37 = .ok (.iload 6, 2) := by decide +kernel
theorem dX3_pairsThatAgree_39 : decode cX3_pairsThatAgree 39 = .ok (.invokevirtual 43, 3) := by decide +kernel
theorem dX3_pairsThatAgree_42 : decode cX3_pairsThatAgree 42 = .ok (.iload_n 2, 1) := by decide +kernel
theorem dX3_pairsThatAgree_43 : decode cX3_pairsThatAgree 43 = .ok (.if_icmp .ne 6, 3) := by decide +kernel
theorem dX3_pairsThatAgree_46 : decode cX3_pairsThatAgree 46 = .ok (.iinc 4 1, 3) := by decide +kernel
theorem dX3_pairsThatAgree_49 : decode cX3_pairsThatAgree 49 = .ok (.iinc 5 1, 3) := by decide +kernel
theorem dX3_pairsThatAgree_52 : decode cX3_pairsThatAgree 52 = .ok (.goto (-46), 3) := by decide +kernel
theorem dX3_pairsThatAgree_55 : decode cX3_pairsThatAgree 55 = .ok (.iload 4, 2) := by decide +kernel
theorem dX3_pairsThatAgree_57 : decode cX3_pairsThatAgree 57 = .ok (.ireturn, 1) := by decide +kernel
