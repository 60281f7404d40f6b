theorem dX0_init_0 : decode cX0_init 0 = .ok (.aload_n 0, 1) := by decide +kernel
theorem dX0_init_1 : decode cX0_init 1 = .ok (.invokespecial 3, 3) := by decide +kernel
theorem dX0_init_4 : decode cX0_init 4 = .ok (.aload_n 0, 1) := by decide +kernel
theorem dX0_init_5 : decode cX0_init 5 = .ok (.bipush 60, 2) := by decide +kernel
theorem dX0_init_7 : decode cX0_init 7 = .ok (.newarray .int, 2) := by decide +kernel
theorem dX0_init_9 : decode cX0_init 9 = .ok (.putfield 9, 3) := by decide +kernel
theorem dX0_init_12 : decode cX0_init 12 = .ok (.aload_n 0, 1) := by decide +kernel
theorem dX0_init_13 : decode cX0_init 13 = .ok (.iconst 0, 1) := by decide +kernel
theorem dX0_init_14 : decode cX0_init 14 = .ok (.putfield 15, 3) := by decide +kernel
theorem dX0_init_17 : decode cX0_init 17 = .ok (.return_, 1) := by decide +kernel
theorem dX0_hasLetterAt_0 : decode cX0_hasLetterAt 0 = .ok (.iload_n 1, 1) := by decide +kernel
theorem dX0_hasLetterAt_1 : decode cX0_hasLetterAt 1 = .ok (.ifCond .lt 37, 3) := by decide +kernel
theorem dX0_hasLetterAt_4 : decode cX0_hasLetterAt 4 = .ok (.iload_n 1, 1) := by decide +kernel
theorem dX0_hasLetterAt_5 : decode cX0_hasLetterAt 5 = .ok (.aload_n 0, 1) := by decide +kernel
theorem dX0_hasLetterAt_6 : decode cX0_hasLetterAt 6 = .ok (.getfield 15, 3) := by decide +kernel
theorem dX0_hasLetterAt_9 : decode cX0_hasLetterAt 9 = .ok (.if_icmp .ge 29, 3) := by decide +kernel
theorem dX0_hasLetterAt_12 : decode cX0_hasLetterAt 12 = .ok (.aload_n 0, 1) := by decide +kernel
theorem dX0_hasLetterAt_13 : decode cX0_hasLetterAt 13 = .ok (.getfield 9, 3) := by decide +kernel
theorem dX0_hasLetterAt_16 : decode cX0_hasLetterAt 16 = .ok (.iload_n 1, 1) := by decide +kernel
theorem dX0_hasLetterAt_17 : decode cX0_hasLetterAt 17 = .ok (.iaload, 1) := by decide +kernel
theorem dX0_hasLetterAt_18 : decode cX0_hasLetterAt 18 = .ok (.bipush 97, 2) := by decide +kernel
theorem dX0_hasLetterAt_20 : decode cX0_hasLetterAt 20 = .ok (.if_icmp .lt 18, 3) := by decide +kernel
theorem dX0_hasLetterAt_23 : decode cX0_hasLetterAt 23 = .ok (.aload_n 0, 1) := by decide +kernel
theorem dX0_hasLetterAt_24 : decode cX0_hasLetterAt 24 = .ok (.getfield 9, 3) := by decide +kernel
theorem dX0_hasLetterAt_27 : decode cX0_hasLetterAt 27 = .ok (.iload_n 1, 1) := by decide +kernel
theorem dX0_hasLetterAt_28 : decode cX0_hasLetterAt 28 = .ok (.iaload, 1) := by decide +kernel
theorem dX0_hasLetterAt_29 : decode cX0_hasLetterAt 29 = .ok (.bipush 107, 2) := by decide +kernel
theorem dX0_hasLetterAt_31 : decode cX0_hasLetterAt 31 = .ok (.if_icmp .ge 7, 3) := by decide +kernel
theorem dX0_hasLetterAt_34 : decode cX0_hasLetterAt 34 = .ok (.iconst 1, 1) := by decide +kernel
theorem dX0_hasLetterAt_35 : decode cX0_hasLetterAt 35 = .ok (.goto 4, 3) := by decide +kernel
theorem dX0_hasLetterAt_38 : decode cX0_hasLetterAt 38 = .ok (.iconst 0, 1) := by decide +kernel
theorem dX0_hasLetterAt_39 : decode cX0_hasLetterAt 39 = .ok (.ireturn, 1) := by decide +kernel
theorem dX0_hasPairAt_0 : decode cX0_hasPairAt 0 = .ok (.aload_n 0, 1) := by decide +kernel
theorem dX0_hasPairAt_1 : decode cX0_hasPairAt 1 = .ok (.iload_n 1, 1) := by decide +kernel
theorem dX0_hasPairAt_2 : decode cX0_hasPairAt 2 = .ok (.invokevirtual 19, 3) := by decide +kernel
theorem dX0_hasPairAt_5 : decode cX0_hasPairAt 5 = .ok (.ifCond .eq 17, 3) := by decide +kernel
theorem dX0_hasPairAt_8 : decode cX0_hasPairAt 8 = .ok (.aload_n 0, 1) := by decide +kernel
theorem dX0_hasPairAt_9 : decode cX0_hasPairAt 9 = .ok (.iload_n 1, 1) := by decide +kernel
theorem dX0_hasPairAt_10 : decode cX0_hasPairAt 10 = .ok (.iconst 1, 1) := by decide +kernel
theorem dX0_hasPairAt_11 : decode cX0_hasPairAt 11 = .ok (.iadd, 1) := by decide +kernel
theorem dX0_hasPairAt_12 : decode cX0_hasPairAt 12 = .ok (.invokevirtual 19, 3) := by decide +kernel
theorem dX0_hasPairAt_15 : decode cX0_hasPairAt 15 = .ok (.ifCond .eq 7, 3) := by decide +kernel
theorem dX0_hasPairAt_18 : decode cX0_hasPairAt 18 = .ok (.iconst 1, 1) := by decide +kernel
theorem dX0_hasPairAt_19 : decode cX0_hasPairAt 19 = .ok (.goto 4, 3) := by decide +kernel
theorem dX0_hasPairAt_22 : decode cX0_hasPairAt 22 = .ok (.iconst 0, 1) := by decide +kernel
theorem dX0_hasPairAt_23 : decode cX0_hasPairAt 23 = .ok (.ireturn, 1) := by decide +kernel
theorem dX0_letterAt_0 : decode cX0_letterAt 0 = .ok (.aload_n 0, 1) := by decide +kernel
theorem dX0_letterAt_1 : decode cX0_letterAt 1 = .ok (.getfield 9, 3) := by decide +kernel
theorem dX0_letterAt_4 : decode cX0_letterAt 4 = .ok (.iload_n 1, 1) := by decide +kernel
theorem dX0_letterAt_5 : decode cX0_letterAt 5 = .ok (.iaload, 1) := by decide +kernel
theorem dX0_letterAt_6 : decode cX0_letterAt 6 = .ok (.bipush 97, 2) := by decide +kernel
theorem dX0_letterAt_8 : decode cX0_letterAt 8 = .ok (.isub, 1) := by decide +kernel
theorem dX0_letterAt_9 : decode cX0_letterAt 9 = .ok (.ireturn, 1) := by decide +kernel
theorem dX0_pairAt_0 : decode cX0_pairAt 0 = .ok (.bipush 10, 2) := by decide +kernel
theorem dX0_pairAt_2 : decode cX0_pairAt 2 = .ok (.aload_n 0, 1) := by decide +kernel
theorem dX0_pairAt_3 : decode cX0_pairAt 3 = .ok (.iload_n 1, 1) := by decide +kernel
theorem dX0_pairAt_4 : decode cX0_pairAt 4 = .ok (.invokevirtual 23, 3) := by decide +kernel
theorem dX0_pairAt_7 : decode cX0_pairAt 7 = .ok (.imul, 1) := by decide +kernel
theorem dX0_pairAt_8 : decode cX0_pairAt 8 = .ok (.aload_n 0, 1) := by decide +kernel
theorem dX0_pairAt_9 : decode cX0_pairAt 9 = .ok (.iload_n 1, 1) := by decide +kernel
theorem dX0_pairAt_10 : decode cX0_pairAt 10 = .ok (.iconst 1, 1) := by decide +kernel
theorem dX0_pairAt_11 : decode cX0_pairAt 11 = .ok (.iadd, 1) := by decide +kernel
theorem dX0_pairAt_12 : decode cX0_pairAt 12 = .ok (.invokevirtual 23, 3) := by decide +kernel
theorem dX0_pairAt_15 : decode cX0_pairAt 15 = .ok (.iadd, 1) := by decide +kernel
theorem dX0_pairAt_16 : decode cX0_pairAt 16 = .ok (.ireturn, 1) := by decide +kernel
theorem dX0_firstWrongPlace_0 : decode cX0_firstWrongPlace 0 = .ok (.iconst 0, 1) := by decide +kernel
theorem dX0_firstWrongPlace_1 : decode cX0_firstWrongPlace 1 = .ok (.istore_n 1, 1) := by decide +kernel
theorem dX0_firstWrongPlace_2 : decode cX0_firstWrongPlace 2 = .ok (.iload_n 1, 1) := by decide +kernel
theorem dX0_firstWrongPlace_3 : decode cX0_firstWrongPlace 3 = .ok (.aload_n 0, 1) := by decide +kernel
theorem dX0_firstWrongPlace_4 : decode cX0_firstWrongPlace 4 = .ok (.getfield 15, 3) := by decide +kernel
theorem dX0_firstWrongPlace_7 : decode cX0_firstWrongPlace 7 = .ok (.if_icmp .ge 50, 3) := by decide +kernel
theorem dX0_firstWrongPlace_10 : decode cX0_firstWrongPlace 10 = .ok (.aload_n 0, 1) := by decide +kernel
theorem dX0_firstWrongPlace_11 : decode cX0_firstWrongPlace 11 = .ok (.getfield 9, 3) := by decide +kernel
theorem dX0_firstWrongPlace_14 : decode cX0_firstWrongPlace 14 = .ok (.iload_n 1, 1) := by decide +kernel
theorem dX0_firstWrongPlace_15 : decode cX0_firstWrongPlace 15 = .ok (.iaload, 1) := by decide +kernel
theorem dX0_firstWrongPlace_16 : decode cX0_firstWrongPlace 16 = .ok (.bipush 46, 2) := by decide +kernel
theorem dX0_firstWrongPlace_18 : decode cX0_firstWrongPlace 18 = .ok (.if_icmp .ne 17, 3) := by decide +kernel
theorem dX0_firstWrongPlace_21 : decode cX0_firstWrongPlace 21 = .ok (.aload_n 0, 1) := by decide +kernel
theorem dX0_firstWrongPlace_22 : decode cX0_firstWrongPlace 22 = .ok (.iload_n 1, 1) := by decide +kernel
theorem dX0_firstWrongPlace_23 : decode cX0_firstWrongPlace 23 = .ok (.iconst 1, 1) := by decide +kernel
theorem dX0_firstWrongPlace_24 : decode cX0_firstWrongPlace 24 = .ok (.isub, 1) := by decide +kernel
theorem dX0_firstWrongPlace_25 : decode cX0_firstWrongPlace 25 = .ok (.invokevirtual 19, 3) := by decide +kernel
theorem dX0_firstWrongPlace_28 : decode cX0_firstWrongPlace 28 = .ok (.ifCond .eq 7, 3) := by decide +kernel
theorem dX0_firstWrongPlace_31 : decode cX0_firstWrongPlace 31 = .ok (.iconst 1, 1) := by decide +kernel
theorem dX0_firstWrongPlace_32 : decode cX0_firstWrongPlace 32 = .ok (.goto 4, 3) := by decide +kernel
theorem dX0_firstWrongPlace_35 : decode cX0_firstWrongPlace 35 = .ok (.iconst 0, 1) := by decide +kernel
theorem dX0_firstWrongPlace_36 : decode cX0_firstWrongPlace 36 = .ok (.istore_n 2, 1) := by decide +kernel
theorem dX0_firstWrongPlace_37 : decode cX0_firstWrongPlace 37 = .ok (.aload_n 0, 1) := by decide +kernel
theorem dX0_firstWrongPlace_38 : decode cX0_firstWrongPlace 38 = .ok (.iload_n 1, 1) := by decide +kernel
theorem dX0_firstWrongPlace_39 : decode cX0_firstWrongPlace 39 = .ok (.invokevirtual 19, 3) := by decide +kernel
theorem dX0_firstWrongPlace_42 : decode cX0_firstWrongPlace 42 = .ok (.ifCond .ne 9, 3) := by decide +kernel
theorem dX0_firstWrongPlace_45 : decode cX0_firstWrongPlace 45 = .ok (.iload_n 2, 1) := by decide +kernel
theorem dX0_firstWrongPlace_46 : decode cX0_firstWrongPlace 46 = .ok (.ifCond .ne 5, 3) := by decide +kernel
theorem dX0_firstWrongPlace_49 : decode cX0_firstWrongPlace 49 = .ok (.iload_n 1, 1) := by decide +kernel
theorem dX0_firstWrongPlace_50 : decode cX0_firstWrongPlace 50 = .ok (.ireturn, 1) := by decide +kernel
theorem dX0_firstWrongPlace_51 : decode cX0_firstWrongPlace 51 = .ok (.iinc 1 1, 3) := by decide +kernel
theorem dX0_firstWrongPlace_54 : decode cX0_firstWrongPlace 54 = .ok (.goto (-52), 3) := by decide +kernel
theorem dX0_firstWrongPlace_57 : decode cX0_firstWrongPlace 57 = .ok (.aload_n 0, 1) := by decide +kernel
theorem dX0_firstWrongPlace_58 : decode cX0_firstWrongPlace 58 = .ok (.getfield 15, 3) := by decide +kernel
theorem dX0_firstWrongPlace_61 : decode cX0_firstWrongPlace 61 = .ok (.ireturn, 1) := by decide +kernel
theorem dX0_tellsText_0 : decode cX0_tellsText 0 = .ok (.aload_n 0, 1) := by decide +kernel
theorem dX0_tellsText_1 : decode cX0_tellsText 1 = .ok (.invokevirtual 27, 3) := by decide +kernel
theorem dX0_tellsText_4 : decode cX0_tellsText 4 = .ok (.aload_n 0, 1) := by decide +kernel
theorem dX0_tellsText_5 : decode cX0_tellsText 5 = .ok (.getfield 15, 3) := by decide +kernel
theorem dX0_tellsText_8 : decode cX0_tellsText 8 = .ok (.if_icmp .ne 20, 3) := by decide +kernel
theorem dX0_tellsText_11 : decode cX0_tellsText 11 = .ok (.aload_n 0, 1) := by decide +kernel
theorem dX0_tellsText_12 : decode cX0_tellsText 12 = .ok (.aload_n 0, 1) := by decide +kernel
theorem dX0_tellsText_13 : decode cX0_tellsText 13 = .ok (.getfield 15, 3) := by decide +kernel
theorem dX0_tellsText_16 : decode cX0_tellsText 16 = .ok (.iconst 1, 1) := by decide +kernel
theorem dX0_tellsText_17 : decode cX0_tellsText 17 = .ok (.isub, 1) := by decide +kernel
theorem dX0_tellsText_18 : decode cX0_tellsText 18 = .ok (.invokevirtual 19, 3) := by decide +kernel
theorem dX0_tellsText_21 : decode cX0_tellsText 21 = .ok (.ifCond .eq 7, 3) := by decide +kernel
theorem dX0_tellsText_24 : decode cX0_tellsText 24 = .ok (.iconst 1, 1) := by decide +kernel
theorem dX0_tellsText_25 : decode cX0_tellsText 25 = .ok (.goto 4, 3) := by decide +kernel
theorem dX0_tellsText_28 : decode cX0_tellsText 28 = .ok (.iconst 0, 1) := by decide +kernel
theorem dX0_tellsText_29 : decode cX0_tellsText 29 = .ok (.ireturn, 1) := by decide +kernel
theorem dX1_init_0 : decode cX1_init 0 = .ok (.aload_n 0, 1) := by decide +kernel
theorem dX1_init_1 : decode cX1_init 1 = .ok (.invokespecial 3, 3) := by decide +kernel
theorem dX1_init_4 : decode cX1_init 4 = .ok (.aload_n 0, 1) := by decide +kernel
theorem dX1_init_5 : decode cX1_init 5 = .ok (.bipush 10, 2) := by decide +kernel
theorem dX1_init_7 : decode cX1_init 7 = .ok (.newarray .int, 2) := by decide +kernel
theorem dX1_init_9 : decode cX1_init 9 = .ok (.putfield 9, 3) := by decide +kernel
theorem dX1_init_12 : decode cX1_init 12 = .ok (.aload_n 0, 1) := by decide +kernel
theorem dX1_init_13 : decode cX1_init 13 = .ok (.bipush 100, 2) := by decide +kernel
theorem dX1_init_15 : decode cX1_init 15 = .ok (.newarray .int, 2) := by decide +kernel
theorem dX1_init_17 : decode cX1_init 17 = .ok (.putfield 15, 3) := by decide +kernel
theorem dX1_init_20 : decode cX1_init 20 = .ok (.aload_n 0, 1) := by decide +kernel
theorem dX1_init_21 : decode cX1_init 21 = .ok (.bipush 61, 2) := by decide +kernel
theorem dX1_init_23 : decode cX1_init 23 = .ok (.newarray .int, 2) := by decide +kernel
theorem dX1_init_25 : decode cX1_init 25 = .ok (.putfield 18, 3) := by decide +kernel
theorem dX1_init_28 : decode cX1_init 28 = .ok (.aload_n 0, 1) := by decide +kernel
theorem dX1_init_29 : decode cX1_init 29 = .ok (.bipush 62, 2) := by decide +kernel
theorem dX1_init_31 : decode cX1_init 31 = .ok (.newarray .int, 2) := by decide +kernel
theorem dX1_init_33 : decode cX1_init 33 = .ok (.putfield 21, 3) := by decide +kernel
theorem dX1_init_36 : decode cX1_init 36 = .ok (.aload_n 0, 1) := by decide +kernel
theorem dX1_init_37 : decode cX1_init 37 = .ok (.iconst 0, 1) := by decide +kernel
theorem dX1_init_38 : decode cX1_init 38 = .ok (.putfield 24, 3) := by decide +kernel
theorem dX1_init_41 : decode cX1_init 41 = .ok (.return_, 1) := by decide +kernel
theorem dX1_widthAt_0 : decode cX1_widthAt 0 = .ok (.aload_n 2, 1) := by decide +kernel
theorem dX1_widthAt_1 : decode cX1_widthAt 1 = .ok (.iload_n 3, 1) := by decide +kernel
theorem dX1_widthAt_2 : decode cX1_widthAt 2 = .ok (.invokevirtual 28, 3) := by decide +kernel
theorem dX1_widthAt_5 : decode cX1_widthAt 5 = .ok (.ifCond .ne 10, 3) := by decide +kernel
theorem dX1_widthAt_8 : decode cX1_widthAt 8 = .ok (.aload_n 1, 1) := by decide +kernel
theorem dX1_widthAt_9 : decode cX1_widthAt 9 = .ok (.getfield 34, 3) := by decide +kernel
theorem dX1_widthAt_12 : decode cX1_widthAt 12 = .ok (.iconst 2, 1) := by decide +kernel
theorem dX1_widthAt_13 : decode cX1_widthAt 13 = .ok (.iaload, 1) := by decide +kernel
theorem dX1_widthAt_14 : decode cX1_widthAt 14 = .ok (.ireturn, 1) := by decide +kernel
theorem dX1_widthAt_15 : decode cX1_widthAt 15 = .ok (.aload_n 1, 1) := by decide +kernel
theorem dX1_widthAt_16 : decode cX1_widthAt 16 = .ok (.getfield 39, 3) := by decide +kernel
theorem dX1_widthAt_19 : decode cX1_widthAt 19 = .ok (.aload_n 2, 1) := by decide +kernel
theorem dX1_widthAt_20 : decode cX1_widthAt 20 = .ok (.iload_n 3, 1) := by decide +kernel
theorem dX1_widthAt_21 : decode cX1_widthAt 21 = .ok (.invokevirtual 42, 3) := by decide +kernel
theorem dX1_widthAt_24 : decode cX1_widthAt 24 = .ok (.iaload, 1) := by decide +kernel
theorem dX1_widthAt_25 : decode cX1_widthAt 25 = .ok (.istore 4, 2) := by decide +kernel
theorem dX1_widthAt_27 : decode cX1_widthAt 27 = .ok (.aload_n 2, 1) := by decide +kernel
theorem dX1_widthAt_28 : decode cX1_widthAt 28 = .ok (.iload_n 3, 1) := by decide +kernel
theorem dX1_widthAt_29 : decode cX1_widthAt 29 = .ok (.invokevirtual 46, 3) := by decide +kernel
theorem dX1_widthAt_32 : decode cX1_widthAt 32 = .ok (.ifCond .eq 21, 3) := by decide +kernel
theorem dX1_widthAt_35 : decode cX1_widthAt 35 = .ok (.iload 4, 2) := by decide +kernel
theorem dX1_widthAt_37 : decode cX1_widthAt 37 = .ok (.aload_n 1, 1) := by decide +kernel
theorem dX1_widthAt_38 : decode cX1_widthAt 38 = .ok (.getfield 49, 3) := by decide +kernel
theorem dX1_widthAt_41 : decode cX1_widthAt 41 = .ok (.aload_n 1, 1) := by decide +kernel
theorem dX1_widthAt_42 : decode cX1_widthAt 42 = .ok (.aload_n 2, 1) := by decide +kernel
theorem dX1_widthAt_43 : decode cX1_widthAt 43 = .ok (.iload_n 3, 1) := by decide +kernel
theorem dX1_widthAt_44 : decode cX1_widthAt 44 = .ok (.invokevirtual 53, 3) := by decide +kernel
theorem dX1_widthAt_47 : decode cX1_widthAt 47 = .ok (.invokevirtual 56, 3) := by decide +kernel
theorem dX1_widthAt_50 : decode cX1_widthAt 50 = .ok (.iadd, 1) := by decide +kernel
theorem dX1_widthAt_51 : decode cX1_widthAt 51 = .ok (.istore 4, 2) := by decide +kernel
theorem dX1_widthAt_53 : decode cX1_widthAt 53 = .ok (.iload 4, 2) := by decide +kernel
theorem dX1_widthAt_55 : decode cX1_widthAt 55 = .ok (.ireturn, 1) := by decide +kernel
theorem dX1_widthByPlaces_0 : decode cX1_widthByPlaces 0 = .ok (.iconst 0, 1) := by decide +kernel
theorem dX1_widthByPlaces_1 : decode cX1_widthByPlaces 1 = .ok (.istore_n 3, 1) := by decide +kernel
theorem dX1_widthByPlaces_2 : decode cX1_widthByPlaces 2 = .ok (.iconst 0, 1) := by decide +kernel
theorem dX1_widthByPlaces_3 : decode cX1_widthByPlaces 3 = .ok (.istore 4, 2) := by decide +kernel
theorem dX1_widthByPlaces_5 : decode cX1_widthByPlaces 5 = .ok (.iload 4, 2) := by decide +kernel
theorem dX1_widthByPlaces_7 : decode cX1_widthByPlaces 7 = .ok (.aload_n 2, 1) := by decide +kernel
theorem dX1_widthByPlaces_8 : decode cX1_widthByPlaces 8 = .ok (.getfield 62, 3) := by decide +kernel
theorem dX1_widthByPlaces_11 : decode cX1_widthByPlaces 11 = .ok (.if_icmp .ge 20, 3) := by decide +kernel
theorem dX1_widthByPlaces_14 : decode cX1_widthByPlaces 14 = .ok (.iload_n 3, 1) := by decide +kernel
theorem dX1_widthByPlaces_15 : decode cX1_widthByPlaces 15 = .ok (.aload_n 0, 1) := by decide +kernel
theorem dX1_widthByPlaces_16 : decode cX1_widthByPlaces 16 = .ok (.aload_n 1, 1) := by decide +kernel
theorem dX1_widthByPlaces_17 : decode cX1_widthByPlaces 17 = .ok (.aload_n 2, 1) := by decide +kernel
theorem dX1_widthByPlaces_18 : decode cX1_widthByPlaces 18 = .ok (.iload 4, 2) := by decide +kernel
theorem dX1_widthByPlaces_20 : decode cX1_widthByPlaces 20 = .ok (.invokevirtual 65, 3) := by decide +kernel
theorem dX1_widthByPlaces_23 : decode cX1_widthByPlaces 23 = .ok (.iadd, 1) := by decide +kernel
theorem dX1_widthByPlaces_24 : decode cX1_widthByPlaces 24 = .ok (.istore_n 3, 1) := by decide +kernel
theorem dX1_widthByPlaces_25 : decode cX1_widthByPlaces 25 = .ok (.iinc 4 1, 3) := by decide +kernel
theorem dX1_widthByPlaces_28 : decode cX1_widthByPlaces 28 = .ok (.goto (-23), 3) := by decide +kernel
theorem dX1_widthByPlaces_31 : decode cX1_widthByPlaces 31 = .ok (.iload_n 3, 1) := by decide +kernel
theorem dX1_widthByPlaces_32 : decode cX1_widthByPlaces 32 = .ok (.ireturn, 1) := by decide +kernel
theorem dX1_widthByCounts_0 : decode cX1_widthByCounts 0 = .ok (.aload_n 0, 1) := by decide +kernel
theorem dX1_widthByCounts_1 : decode cX1_widthByCounts 1 = .ok (.getfield 9, 3) := by decide +kernel
theorem dX1_widthByCounts_4 : decode cX1_widthByCounts 4 = .ok (.iconst 0, 1) := by decide +kernel
theorem dX1_widthByCounts_5 : decode cX1_widthByCounts 5 = .ok (.invokestatic 69, 3) := by decide +kernel
theorem dX1_widthByCounts_8 : decode cX1_widthByCounts 8 = .ok (.aload_n 0, 1) := by decide +kernel
theorem dX1_widthByCounts_9 : decode cX1_widthByCounts 9 = .ok (.getfield 15, 3) := by decide +kernel
theorem dX1_widthByCounts_12 : decode cX1_widthByCounts 12 = .ok (.iconst 0, 1) := by decide +kernel
theorem dX1_widthByCounts_13 : decode cX1_widthByCounts 13 = .ok (.invokestatic 69, 3) := by decide +kernel
theorem dX1_widthByCounts_16 : decode cX1_widthByCounts 16 = .ok (.iconst 0, 1) := by decide +kernel
theorem dX1_widthByCounts_17 : decode cX1_widthByCounts 17 = .ok (.istore_n 3, 1) := by decide +kernel
theorem dX1_widthByCounts_18 : decode cX1_widthByCounts 18 = .ok (.iconst 0, 1) := by decide +kernel
theorem dX1_widthByCounts_19 : decode cX1_widthByCounts 19 = .ok (.istore 4, 2) := by decide +kernel
theorem dX1_widthByCounts_21 : decode cX1_widthByCounts 21 = .ok (.iload 4, 2) := by decide +kernel
theorem dX1_widthByCounts_23 : decode cX1_widthByCounts 23 = .ok (.aload_n 2, 1) := by decide +kernel
theorem dX1_widthByCounts_24 : decode cX1_widthByCounts 24 = .ok (.getfield 62, 3) := by decide +kernel
theorem dX1_widthByCounts_27 : decode cX1_widthByCounts 27 = .ok (.if_icmp .ge 63, 3) := by decide +kernel
theorem dX1_widthByCounts_30 : decode cX1_widthByCounts 30 = .ok (.aload_n 2, 1) := by decide +kernel
theorem dX1_widthByCounts_31 : decode cX1_widthByCounts 31 = .ok (.iload 4, 2) := by decide +kernel
theorem dX1_widthByCounts_33 : decode cX1_widthByCounts 33 = .ok (.invokevirtual 28, 3) := by decide +kernel
theorem dX1_widthByCounts_36 : decode cX1_widthByCounts 36 = .ok (.ifCond .eq 21, 3) := by decide +kernel
theorem dX1_widthByCounts_39 : decode cX1_widthByCounts 39 = .ok (.aload_n 0, 1) := by decide +kernel
theorem dX1_widthByCounts_40 : decode cX1_widthByCounts 40 = .ok (.getfield 9, 3) := by decide +kernel
theorem dX1_widthByCounts_43 : decode cX1_widthByCounts 43 = .ok (.aload_n 2, 1) := by decide +kernel
theorem dX1_widthByCounts_44 : decode cX1_widthByCounts 44 = .ok (.iload 4, 2) := by decide +kernel
theorem dX1_widthByCounts_46 : decode cX1_widthByCounts 46 = .ok (.invokevirtual 42, 3) := by decide +kernel
theorem dX1_widthByCounts_49 : decode cX1_widthByCounts 49 = .ok (.dup2, 1) := by decide +kernel
theorem dX1_widthByCounts_50 : decode cX1_widthByCounts 50 = .ok (.iaload, 1) := by decide +kernel
theorem dX1_widthByCounts_51 : decode cX1_widthByCounts 51 = .ok (.iconst 1, 1) := by decide +kernel
theorem dX1_widthByCounts_52 : decode cX1_widthByCounts 52 = .ok (.iadd, 1) := by decide +kernel
theorem dX1_widthByCounts_53 : decode cX1_widthByCounts 53 = .ok (.iastore, 1) := by decide +kernel
theorem dX1_widthByCounts_54 : decode cX1_widthByCounts 54 = .ok (.goto 6, 3) := by decide +kernel
theorem dX1_widthByCounts_57 : decode cX1_widthByCounts 57 = .ok (.iinc 3 1, 3) := by decide +kernel
theorem dX1_widthByCounts_60 : decode cX1_widthByCounts 60 = .ok (.aload_n 2, 1) := by decide +kernel
theorem dX1_widthByCounts_61 : decode cX1_widthByCounts 61 = .ok (.iload 4, 2) := by decide +kernel
theorem dX1_widthByCounts_63 : decode cX1_widthByCounts 63 = .ok (.invokevirtual 46, 3) := by decide +kernel
theorem dX1_widthByCounts_66 : decode cX1_widthByCounts 66 = .ok (.ifCond .eq 18, 3) := by decide +kernel
theorem dX1_widthByCounts_69 : decode cX1_widthByCounts 69 = .ok (.aload_n 0, 1) := by decide +kernel
theorem dX1_widthByCounts_70 : decode cX1_widthByCounts 70 = .ok (.getfield 15, 3) := by decide +kernel
theorem dX1_widthByCounts_73 : decode cX1_widthByCounts 73 = .ok (.aload_n 2, 1) := by decide +kernel
theorem dX1_widthByCounts_74 : decode cX1_widthByCounts 74 = .ok (.iload 4, 2) := by decide +kernel
theorem dX1_widthByCounts_76 : decode cX1_widthByCounts 76 = .ok (.invokevirtual 53, 3) := by decide +kernel
theorem dX1_widthByCounts_79 : decode cX1_widthByCounts 79 = .ok (.dup2, 1) := by decide +kernel
theorem dX1_widthByCounts_80 : decode cX1_widthByCounts 80 = .ok (.iaload, 1) := by decide +kernel
theorem dX1_widthByCounts_81 : decode cX1_widthByCounts 81 = .ok (.iconst 1, 1) := by decide +kernel
theorem dX1_widthByCounts_82 : decode cX1_widthByCounts 82 = .ok (.iadd, 1) := by decide +kernel
theorem dX1_widthByCounts_83 : decode cX1_widthByCounts 83 = .ok (.iastore, 1) := by decide +kernel
theorem dX1_widthByCounts_84 : decode cX1_widthByCounts 84 = .ok (.iinc 4 1, 3) := by decide +kernel
theorem dX1_widthByCounts_87 : decode cX1_widthByCounts 87 = .ok (.goto (-66), 3) := by decide +kernel
theorem dX1_widthByCounts_90 : decode cX1_widthByCounts 90 = .ok (.iload_n 3, 1) := by decide +kernel
theorem dX1_widthByCounts_91 : decode cX1_widthByCounts 91 = .ok (.aload_n 1, 1) := by decide +kernel
theorem dX1_widthByCounts_92 : decode cX1_widthByCounts 92 = .ok (.getfield 34, 3) := by decide +kernel
theorem dX1_widthByCounts_95 : decode cX1_widthByCounts 95 = .ok (.iconst 2, 1) := by decide +kernel
theorem dX1_widthByCounts_96 : decode cX1_widthByCounts 96 = .ok (.iaload, 1) := by decide +kernel
theorem dX1_widthByCounts_97 : decode cX1_widthByCounts 97 = .ok (.imul, 1) := by decide +kernel
theorem dX1_widthByCounts_98 : decode cX1_widthByCounts 98 = .ok (.istore 4, 2) := by decide +kernel
theorem dX1_widthByCounts_100 : decode cX1_widthByCounts 100 = .ok (.iconst 0, 1) := by decide +kernel
theorem dX1_widthByCounts_101 : decode cX1_widthByCounts 101 = .ok (.istore 5, 2) := by decide +kernel
theorem dX1_widthByCounts_103 : decode cX1_widthByCounts 103 = .ok (.iload 5, 2) := by decide +kernel
theorem dX1_widthByCounts_105 : decode cX1_widthByCounts 105 = .ok (.bipush 10, 2) := by decide +kernel
theorem dX1_widthByCounts_107 : decode cX1_widthByCounts 107 = .ok (.if_icmp .ge 29, 3) := by decide +kernel
theorem dX1_widthByCounts_110 : decode cX1_widthByCounts 110 = .ok (.iload 4, 2) := by decide +kernel
theorem dX1_widthByCounts_112 : decode cX1_widthByCounts 112 = .ok (.aload_n 0, 1) := by decide +kernel
theorem dX1_widthByCounts_113 : decode cX1_widthByCounts 113 = .ok (.getfield 9, 3) := by decide +kernel
theorem dX1_widthByCounts_116 : decode cX1_widthByCounts 116 = .ok (.iload 5, 2) := by decide +kernel
theorem dX1_widthByCounts_118 : decode cX1_widthByCounts 118 = .ok (.iaload, 1) := by decide +kernel
theorem dX1_widthByCounts_119 : decode cX1_widthByCounts 119 = .ok (.aload_n 1, 1) := by decide +kernel
theorem dX1_widthByCounts_120 : decode cX1_widthByCounts 120 = .ok (.getfield 39, 3) := by decide +kernel
theorem dX1_widthByCounts_123 : decode cX1_widthByCounts 123 = .ok (.iload 5, 2) := by decide +kernel
theorem dX1_widthByCounts_125 : decode cX1_widthByCounts 125 = .ok (.iaload, 1) := by decide +kernel
theorem dX1_widthByCounts_126 : decode cX1_widthByCounts 126 = .ok (.imul, 1) := by decide +kernel
theorem dX1_widthByCounts_127 : decode cX1_widthByCounts 127 = .ok (.iadd, 1) := by decide +kernel
theorem dX1_widthByCounts_128 : decode cX1_widthByCounts 128 = .ok (.istore 4, 2) := by decide +kernel
theorem dX1_widthByCounts_130 : decode cX1_widthByCounts 130 = .ok (.iinc 5 1, 3) := by decide +kernel
theorem dX1_widthByCounts_133 : decode cX1_widthByCounts 133 = .ok (.goto (-30), 3) := by decide +kernel
theorem dX1_widthByCounts_136 : decode cX1_widthByCounts 136 = .ok (.iconst 0, 1) := by decide +kernel
theorem dX1_widthByCounts_137 : decode cX1_widthByCounts 137 = .ok (.istore 5, 2) := by decide +kernel
theorem dX1_widthByCounts_139 : decode cX1_widthByCounts 139 = .ok (.iload 5, 2) := by decide +kernel
theorem dX1_widthByCounts_141 : decode cX1_widthByCounts 141 = .ok (.bipush 100, 2) := by decide +kernel
theorem dX1_widthByCounts_143 : decode cX1_widthByCounts 143 = .ok (.if_icmp .ge 32, 3) := by decide +kernel
theorem dX1_widthByCounts_146 : decode cX1_widthByCounts 146 = .ok (.iload 4, 2) := by decide +kernel
theorem dX1_widthByCounts_148 : decode cX1_widthByCounts 148 = .ok (.aload_n 0, 1) := by decide +kernel
theorem dX1_widthByCounts_149 : decode cX1_widthByCounts 149 = .ok (.getfield 15, 3) := by decide +kernel
theorem dX1_widthByCounts_152 : decode cX1_widthByCounts 152 = .ok (.iload 5, 2) := by decide +kernel
theorem dX1_widthByCounts_154 : decode cX1_widthByCounts 154 = .ok (.iaload, 1) := by decide +kernel
theorem dX1_widthByCounts_155 : decode cX1_widthByCounts 155 = .ok (.aload_n 1, 1) := by decide +kernel
theorem dX1_widthByCounts_156 : decode cX1_widthByCounts 156 = .ok (.getfield 49, 3) := by decide +kernel
theorem dX1_widthByCounts_159 : decode cX1_widthByCounts 159 = .ok (.aload_n 1, 1) := by decide +kernel
theorem dX1_widthByCounts_160 : decode cX1_widthByCounts 160 = .ok (.iload 5, 2) := by decide +kernel
theorem dX1_widthByCounts_162 : decode cX1_widthByCounts 162 = .ok (.invokevirtual 56, 3) := by decide +kernel
theorem dX1_widthByCounts_165 : decode cX1_widthByCounts 165 = .ok (.imul, 1) := by decide +kernel
theorem dX1_widthByCounts_166 : decode cX1_widthByCounts 166 = .ok (.iadd, 1) := by decide +kernel
theorem dX1_widthByCounts_167 : decode cX1_widthByCounts 167 = .ok (.istore 4, 2) := by decide +kernel
theorem dX1_widthByCounts_169 : decode cX1_widthByCounts 169 = .ok (.iinc 5 1, 3) := by decide +kernel
theorem dX1_widthByCounts_172 : decode cX1_widthByCounts 172 = .ok (.goto (-33), 3) := by decide +kernel
theorem dX1_widthByCounts_175 : decode cX1_widthByCounts 175 = .ok (.iload 4, 2) := by decide +kernel
theorem dX1_widthByCounts_177 : decode cX1_widthByCounts 177 = .ok (.ireturn, 1) := by decide +kernel
theorem dX1_findWords_0 : decode cX1_findWords 0 = .ok (.aload_n 0, 1) := by decide +kernel
theorem dX1_findWords_1 : decode cX1_findWords 1 = .ok (.getfield 18, 3) := by decide +kernel
theorem dX1_findWords_4 : decode cX1_findWords 4 = .ok (.iconst 0, 1) := by decide +kernel
theorem dX1_findWords_5 : decode cX1_findWords 5 = .ok (.invokestatic 69, 3) := by decide +kernel
theorem dX1_findWords_8 : decode cX1_findWords 8 = .ok (.aload_n 0, 1) := by decide +kernel
theorem dX1_findWords_9 : decode cX1_findWords 9 = .ok (.iconst 1, 1) := by decide +kernel
theorem dX1_findWords_10 : decode cX1_findWords 10 = .ok (.putfield 24, 3) := by decide +kernel
theorem dX1_findWords_13 : decode cX1_findWords 13 = .ok (.iconst 0, 1) := by decide +kernel
theorem dX1_findWords_14 : decode cX1_findWords 14 = .ok (.istore_n 3, 1) := by decide +kernel
theorem dX1_findWords_15 : decode cX1_findWords 15 = .ok (.iload_n 3, 1) := by decide +kernel
theorem dX1_findWords_16 : decode cX1_findWords 16 = .ok (.aload_n 2, 1) := by decide +kernel
theorem dX1_findWords_17 : decode cX1_findWords 17 = .ok (.getfield 62, 3) := by decide +kernel
theorem dX1_findWords_20 : decode cX1_findWords 20 = .ok (.if_icmp .ge 51, 3) := by decide +kernel
theorem dX1_findWords_23 : decode cX1_findWords 23 = .ok (.aload_n 2, 1) := by decide +kernel
theorem dX1_findWords_24 : decode cX1_findWords 24 = .ok (.iload_n 3, 1) := by decide +kernel
theorem dX1_findWords_25 : decode cX1_findWords 25 = .ok (.invokevirtual 28, 3) := by decide +kernel
theorem dX1_findWords_28 : decode cX1_findWords 28 = .ok (.ifCond .eq 27, 3) := by decide +kernel
theorem dX1_findWords_31 : decode cX1_findWords 31 = .ok (.aload_n 0, 1) := by decide +kernel
theorem dX1_findWords_32 : decode cX1_findWords 32 = .ok (.getfield 18, 3) := by decide +kernel
theorem dX1_findWords_35 : decode cX1_findWords 35 = .ok (.aload_n 0, 1) := by decide +kernel
theorem dX1_findWords_36 : decode cX1_findWords 36 = .ok (.getfield 24, 3) := by decide +kernel
theorem dX1_findWords_39 : decode cX1_findWords 39 = .ok (.iconst 1, 1) := by decide +kernel
theorem dX1_findWords_40 : decode cX1_findWords 40 = .ok (.isub, 1) := by decide +kernel
theorem dX1_findWords_41 : decode cX1_findWords 41 = .ok (.dup2, 1) := by decide +kernel
theorem dX1_findWords_42 : decode cX1_findWords 42 = .ok (.iaload, 1) := by decide +kernel
theorem dX1_findWords_43 : decode cX1_findWords 43 = .ok (.aload_n 0, 1) := by decide +kernel
theorem dX1_findWords_44 : decode cX1_findWords 44 = .ok (.aload_n 1, 1) := by decide +kernel
theorem dX1_findWords_45 : decode cX1_findWords 45 = .ok (.aload_n 2, 1) := by decide +kernel
theorem dX1_findWords_46 : decode cX1_findWords 46 = .ok (.iload_n 3, 1) := by decide +kernel
theorem dX1_findWords_47 : decode cX1_findWords 47 = .ok (.invokevirtual 65, 3) := by decide +kernel
theorem dX1_findWords_50 : decode cX1_findWords 50 = .ok (.iadd, 1) := by decide +kernel
theorem dX1_findWords_51 : decode cX1_findWords 51 = .ok (.iastore, 1) := by decide +kernel
theorem dX1_findWords_52 : decode cX1_findWords 52 = .ok (.goto 13, 3) := by decide +kernel
theorem dX1_findWords_55 : decode cX1_findWords 55 = .ok (.aload_n 0, 1) := by decide +kernel
theorem dX1_findWords_56 : decode cX1_findWords 56 = .ok (.dup, 1) := by decide +kernel
theorem dX1_findWords_57 : decode cX1_findWords 57 = .ok (.getfield 24, 3) := by decide +kernel
theorem dX1_findWords_60 : decode cX1_findWords 60 = .ok (.iconst 1, 1) := by decide +kernel
theorem dX1_findWords_61 : decode cX1_findWords 61 = .ok (.iadd, 1) := by decide +kernel
theorem dX1_findWords_62 : decode cX1_findWords 62 = .ok (.putfield 24, 3) := by decide +kernel
theorem dX1_findWords_65 : decode cX1_findWords 65 = .ok (.iinc 3 1, 3) := by decide +kernel
theorem dX1_findWords_68 : decode cX1_findWords 68 = .ok (.goto (-53), 3) := by decide +kernel
theorem dX1_findWords_71 : decode cX1_findWords 71 = .ok (.return_, 1) := by decide +kernel
theorem dX1_widestWord_0 : decode cX1_widestWord 0 = .ok (.iconst 0, 1) := by decide +kernel
theorem dX1_widestWord_1 : decode cX1_widestWord 1 = .ok (.istore_n 1, 1) := by decide +kernel
theorem dX1_widestWord_2 : decode cX1_widestWord 2 = .ok (.iconst 0, 1) := by decide +kernel
theorem dX1_widestWord_3 : decode cX1_widestWord 3 = .ok (.istore_n 2, 1) := by decide +kernel
theorem dX1_widestWord_4 : decode cX1_widestWord 4 = .ok (.iload_n 2, 1) := by decide +kernel
theorem dX1_widestWord_5 : decode cX1_widestWord 5 = .ok (.aload_n 0, 1) := by decide +kernel
theorem dX1_widestWord_6 : decode cX1_widestWord 6 = .ok (.getfield 24, 3) := by decide +kernel
theorem dX1_widestWord_9 : decode cX1_widestWord 9 = .ok (.if_icmp .ge 20, 3) := by decide +kernel
theorem dX1_widestWord_12 : decode cX1_widestWord 12 = .ok (.iload_n 1, 1) := by decide +kernel
theorem dX1_widestWord_13 : decode cX1_widestWord 13 = .ok (.aload_n 0, 1) := by decide +kernel
theorem dX1_widestWord_14 : decode cX1_widestWord 14 = .ok (.getfield 18, 3) := by decide +kernel
theorem dX1_widestWord_17 : decode cX1_widestWord 17 = .ok (.iload_n 2, 1) := by decide +kernel
theorem dX1_widestWord_18 : decode cX1_widestWord 18 = .ok (.iaload, 1) := by decide +kernel
theorem dX1_widestWord_19 : decode cX1_widestWord 19 = .ok (.invokestatic 75, 3) := by decide +kernel
theorem dX1_widestWord_22 : decode cX1_widestWord 22 = .ok (.istore_n 1, 1) := by decide +kernel
theorem dX1_widestWord_23 : decode cX1_widestWord 23 = .ok (.iinc 2 1, 3) := by decide +kernel
theorem dX1_widestWord_26 : decode cX1_widestWord 26 = .ok (.goto (-22), 3) := by decide +kernel
theorem dX1_widestWord_29 : decode cX1_widestWord 29 = .ok (.iload_n 1, 1) := by decide +kernel
theorem dX1_widestWord_30 : decode cX1_widestWord 30 = .ok (.ireturn, 1) := by decide +kernel
theorem dX1_linesByFilling_0 : decode cX1_linesByFilling 0 = .ok (.iconst 1, 1) := by decide +kernel
theorem dX1_linesByFilling_1 : decode cX1_linesByFilling 1 = .ok (.istore_n 2, 1) := by decide +kernel
theorem dX1_linesByFilling_2 : decode cX1_linesByFilling 2 = .ok (.aload_n 0, 1) := by decide +kernel
theorem dX1_linesByFilling_3 : decode cX1_linesByFilling 3 = .ok (.getfield 18, 3) := by decide +kernel
theorem dX1_linesByFilling_6 : decode cX1_linesByFilling 6 = .ok (.iconst 0, 1) := by decide +kernel
theorem dX1_linesByFilling_7 : decode cX1_linesByFilling 7 = .ok (.iaload, 1) := by decide +kernel
theorem dX1_linesByFilling_8 : decode cX1_linesByFilling 8 = .ok (.istore_n 3, 1) := by decide +kernel
theorem dX1_linesByFilling_9 : decode cX1_linesByFilling 9 = .ok (.iconst 1, 1) := by decide +kernel
theorem dX1_linesByFilling_10 : decode cX1_linesByFilling 10 = .ok (.istore 4, 2) := by decide +kernel
theorem dX1_linesByFilling_12 : decode cX1_linesByFilling 12 = .ok (.iload 4, 2) := by decide +kernel
theorem dX1_linesByFilling_14 : decode cX1_linesByFilling 14 = .ok (.aload_n 0, 1) := by decide +kernel
theorem dX1_linesByFilling_15 : decode cX1_linesByFilling 15 = .ok (.getfield 24, 3) := by decide +kernel
theorem dX1_linesByFilling_18 : decode cX1_linesByFilling 18 = .ok (.if_icmp .ge 55, 3) := by decide +kernel
theorem dX1_linesByFilling_21 : decode cX1_linesByFilling 21 = .ok (.iload_n 3, 1) := by decide +kernel
theorem dX1_linesByFilling_22 : decode cX1_linesByFilling 22 = .ok (.aload_n 1, 1) := by decide +kernel
theorem dX1_linesByFilling_23 : decode cX1_linesByFilling 23 = .ok (.getfield 34, 3) := by decide +kernel
theorem dX1_linesByFilling_26 : decode cX1_linesByFilling 26 = .ok (.iconst 2, 1) := by decide +kernel
theorem dX1_linesByFilling_27 : decode cX1_linesByFilling 27 = .ok (.iaload, 1) := by decide +kernel
theorem dX1_linesByFilling_28 : decode cX1_linesByFilling 28 = .ok (.iadd, 1) := by decide +kernel
theorem dX1_linesByFilling_29 : decode cX1_linesByFilling 29 = .ok (.aload_n 0, 1) := by decide +kernel
theorem dX1_linesByFilling_30 : decode cX1_linesByFilling 30 = .ok (.getfield 18, 3) := by decide +kernel
theorem dX1_linesByFilling_33 : decode cX1_linesByFilling 33 = .ok (.iload 4, 2) := by decide +kernel
theorem dX1_linesByFilling_35 : decode cX1_linesByFilling 35 = .ok (.iaload, 1) := by decide +kernel
theorem dX1_linesByFilling_36 : decode cX1_linesByFilling 36 = .ok (.iadd, 1) := by decide +kernel
theorem dX1_linesByFilling_37 : decode cX1_linesByFilling 37 = .ok (.istore 5, 2) := by decide +kernel
theorem dX1_linesByFilling_39 : decode cX1_linesByFilling 39 = .ok (.iload 5, 2) := by decide +kernel
theorem dX1_linesByFilling_41 : decode cX1_linesByFilling 41 = .ok (.aload_n 1, 1) := by decide +kernel
theorem dX1_linesByFilling_42 : decode cX1_linesByFilling 42 = .ok (.getfield 34, 3) := by decide +kernel
theorem dX1_linesByFilling_45 : decode cX1_linesByFilling 45 = .ok (.iconst 3, 1) := by decide +kernel
theorem dX1_linesByFilling_46 : decode cX1_linesByFilling 46 = .ok (.iaload, 1) := by decide +kernel
theorem dX1_linesByFilling_47 : decode cX1_linesByFilling 47 = .ok (.if_icmp .gt 9, 3) := by decide +kernel
theorem dX1_linesByFilling_50 : decode cX1_linesByFilling 50 = .ok (.iload 5, 2) := by decide +kernel
theorem dX1_linesByFilling_52 : decode cX1_linesByFilling 52 = .ok (.istore_n 3, 1) := by decide +kernel
theorem dX1_linesByFilling_53 : decode cX1_linesByFilling 53 = .ok (.goto 14, 3) := by decide +kernel
theorem dX1_linesByFilling_56 : decode cX1_linesByFilling 56 = .ok (.iinc 2 1, 3) := by decide +kernel
theorem dX1_linesByFilling_59 : decode cX1_linesByFilling 59 = .ok (.aload_n 0, 1) := by decide +kernel
theorem dX1_linesByFilling_60 : decode cX1_linesByFilling 60 = .ok (.getfield 18, 3) := by decide +kernel
theorem dX1_linesByFilling_63 : decode cX1_linesByFilling 63 = .ok (.iload 4, 2) := by decide +kernel
theorem dX1_linesByFilling_65 : decode cX1_linesByFilling 65 = .ok (.iaload, 1) := by decide +kernel
theorem dX1_linesByFilling_66 : decode cX1_linesByFilling 66 = .ok (.istore_n 3, 1) := by decide +kernel
theorem dX1_linesByFilling_67 : decode cX1_linesByFilling 67 = .ok (.iinc 4 1, 3) := by decide +kernel
theorem dX1_linesByFilling_70 : decode cX1_linesByFilling 70 = .ok (.goto (-58), 3) := by decide +kernel
theorem dX1_linesByFilling_73 : decode cX1_linesByFilling 73 = .ok (.iload_n 2, 1) := by decide +kernel
theorem dX1_linesByFilling_74 : decode cX1_linesByFilling 74 = .ok (.ireturn, 1) := by decide +kernel
theorem dX1_linesFromBehind_0 : decode cX1_linesFromBehind 0 = .ok (.aload_n 0, 1) := by decide +kernel
theorem dX1_linesFromBehind_1 : decode cX1_linesFromBehind 1 = .ok (.getfield 21, 3) := by decide +kernel
theorem dX1_linesFromBehind_4 : decode cX1_linesFromBehind 4 = .ok (.aload_n 0, 1) := by decide +kernel
theorem dX1_linesFromBehind_5 : decode cX1_linesFromBehind 5 = .ok (.getfield 24, 3) := by decide +kernel
theorem dX1_linesFromBehind_8 : decode cX1_linesFromBehind 8 = .ok (.iconst 0, 1) := by decide +kernel
theorem dX1_linesFromBehind_9 : decode cX1_linesFromBehind 9 = .ok (.iastore, 1) := by decide +kernel
theorem dX1_linesFromBehind_10 : decode cX1_linesFromBehind 10 = .ok (.aload_n 0, 1) := by decide +kernel
theorem dX1_linesFromBehind_11 : decode cX1_linesFromBehind 11 = .ok (.getfield 24, 3) := by decide +kernel
theorem dX1_linesFromBehind_14 : decode cX1_linesFromBehind 14 = .ok (.iconst 1, 1) := by decide +kernel
theorem dX1_linesFromBehind_15 : decode cX1_linesFromBehind 15 = .ok (.isub, 1) := by decide +kernel
theorem dX1_linesFromBehind_16 : decode cX1_linesFromBehind 16 = .ok (.istore_n 2, 1) := by decide +kernel
theorem dX1_linesFromBehind_17 : decode cX1_linesFromBehind 17 = .ok (.iload_n 2, 1) := by decide +kernel
theorem dX1_linesFromBehind_18 : decode cX1_linesFromBehind 18 = .ok (.ifCond .lt 101, 3) := by decide +kernel
theorem dX1_linesFromBehind_21 : decode cX1_linesFromBehind 21 = .ok (.iconst 1, 1) := by decide +kernel
theorem dX1_linesFromBehind_22 : decode cX1_linesFromBehind 22 = .ok (.aload_n 0, 1) := by decide +kernel
theorem dX1_linesFromBehind_23 : decode cX1_linesFromBehind 23 = .ok (.getfield 21, 3) := by decide +kernel
theorem dX1_linesFromBehind_26 : decode cX1_linesFromBehind 26 = .ok (.iload_n 2, 1) := by decide +kernel
theorem dX1_linesFromBehind_27 : decode cX1_linesFromBehind 27 = .ok (.iconst 1, 1) := by decide +kernel
theorem dX1_linesFromBehind_28 : decode cX1_linesFromBehind 28 = .ok (.iadd, 1) := by decide +kernel
theorem dX1_linesFromBehind_29 : decode cX1_linesFromBehind 29 = .ok (.iaload, 1) := by decide +kernel
theorem dX1_linesFromBehind_30 : decode cX1_linesFromBehind 30 = .ok (.iadd, 1) := by decide +kernel
theorem dX1_linesFromBehind_31 : decode cX1_linesFromBehind 31 = .ok (.istore_n 3, 1) := by decide +kernel
theorem dX1_linesFromBehind_32 : decode cX1_linesFromBehind 32 = .ok (.aload_n 0, 1) := by decide +kernel
theorem dX1_linesFromBehind_33 : decode cX1_linesFromBehind 33 = .ok (.getfield 18, 3) := by decide +kernel
theorem dX1_linesFromBehind_36 : decode cX1_linesFromBehind 36 = .ok (.iload_n 2, 1) := by decide +kernel
theorem dX1_linesFromBehind_37 : decode cX1_linesFromBehind 37 = .ok (.iaload, 1) := by decide +kernel
theorem dX1_linesFromBehind_38 : decode cX1_linesFromBehind 38 = .ok (.istore 4, 2) := by decide +kernel
theorem dX1_linesFromBehind_40 : decode cX1_linesFromBehind 40 = .ok (.iload_n 2, 1) := by decide +kernel
theorem dX1_linesFromBehind_41 : decode cX1_linesFromBehind 41 = .ok (.iconst 1, 1) := by decide +kernel
theorem dX1_linesFromBehind_42 : decode cX1_linesFromBehind 42 = .ok (.iadd, 1) := by decide +kernel
theorem dX1_linesFromBehind_43 : decode cX1_linesFromBehind 43 = .ok (.istore 5, 2) := by decide +kernel
theorem dX1_linesFromBehind_45 : decode cX1_linesFromBehind 45 = .ok (.iload 5, 2) := by decide +kernel
theorem dX1_linesFromBehind_47 : decode cX1_linesFromBehind 47 = .ok (.aload_n 0, 1) := by decide +kernel
theorem dX1_linesFromBehind_48 : decode cX1_linesFromBehind 48 = .ok (.getfield 24, 3) := by decide +kernel
theorem dX1_linesFromBehind_51 : decode cX1_linesFromBehind 51 = .ok (.if_icmp .ge 55, 3) := by decide +kernel
theorem dX1_linesFromBehind_54 : decode cX1_linesFromBehind 54 = .ok (.iload 4, 2) := by decide +kernel
theorem dX1_linesFromBehind_56 : decode cX1_linesFromBehind 56 = .ok (.aload_n 1, 1) := by decide +kernel
theorem dX1_linesFromBehind_57 : decode cX1_linesFromBehind 57 = .ok (.getfield 34, 3) := by decide +kernel
theorem dX1_linesFromBehind_60 : decode cX1_linesFromBehind 60 = .ok (.iconst 2, 1) := by decide +kernel
theorem dX1_linesFromBehind_61 : decode cX1_linesFromBehind 61 = .ok (.iaload, 1) := by decide +kernel
theorem dX1_linesFromBehind_62 : decode cX1_linesFromBehind 62 = .ok (.aload_n 0, 1) := by decide +kernel
theorem dX1_linesFromBehind_63 : decode cX1_linesFromBehind 63 = .ok (.getfield 18, 3) := by decide +kernel
theorem dX1_linesFromBehind_66 : decode cX1_linesFromBehind 66 = .ok (.iload 5, 2) := by decide +kernel
theorem dX1_linesFromBehind_68 : decode cX1_linesFromBehind 68 = .ok (.iaload, 1) := by decide +kernel
theorem dX1_linesFromBehind_69 : decode cX1_linesFromBehind 69 = .ok (.iadd, 1) := by decide +kernel
theorem dX1_linesFromBehind_70 : decode cX1_linesFromBehind 70 = .ok (.iadd, 1) := by decide +kernel
theorem dX1_linesFromBehind_71 : decode cX1_linesFromBehind 71 = .ok (.istore 4, 2) := by decide +kernel
theorem dX1_linesFromBehind_73 : decode cX1_linesFromBehind 73 = .ok (.iload 4, 2) := by decide +kernel
theorem dX1_linesFromBehind_75 : decode cX1_linesFromBehind 75 = .ok (.aload_n 1, 1) := by decide +kernel
theorem dX1_linesFromBehind_76 : decode cX1_linesFromBehind 76 = .ok (.getfield 34, 3) := by decide +kernel
theorem dX1_linesFromBehind_79 : decode cX1_linesFromBehind 79 = .ok (.iconst 3, 1) := by decide +kernel
theorem dX1_linesFromBehind_80 : decode cX1_linesFromBehind 80 = .ok (.iaload, 1) := by decide +kernel
theorem dX1_linesFromBehind_81 : decode cX1_linesFromBehind 81 = .ok (.if_icmp .gt 19, 3) := by decide +kernel
theorem dX1_linesFromBehind_84 : decode cX1_linesFromBehind 84 = .ok (.iload_n 3, 1) := by decide +kernel
theorem dX1_linesFromBehind_85 : decode cX1_linesFromBehind 85 = .ok (.iconst 1, 1) := by decide +kernel
theorem dX1_linesFromBehind_86 : decode cX1_linesFromBehind 86 = .ok (.aload_n 0, 1) := by decide +kernel
theorem dX1_linesFromBehind_87 : decode cX1_linesFromBehind 87 = .ok (.getfield 21, 3) := by decide +kernel
theorem dX1_linesFromBehind_90 : decode cX1_linesFromBehind 90 = .ok (.iload 5, 2) := by decide +kernel
theorem dX1_linesFromBehind_92 : decode cX1_linesFromBehind 92 = .ok (.iconst 1, 1) := by decide +kernel
theorem dX1_linesFromBehind_93 : decode cX1_linesFromBehind 93 = .ok (.iadd, 1) := by decide +kernel
theorem dX1_linesFromBehind_94 : decode cX1_linesFromBehind 94 = .ok (.iaload, 1) := by decide +kernel
theorem dX1_linesFromBehind_95 : decode cX1_linesFromBehind 95 = .ok (.iadd, 1) := by decide +kernel
theorem dX1_linesFromBehind_96 : decode cX1_linesFromBehind 96 = .ok (.invokestatic 81, 3) := by decide +kernel
theorem dX1_linesFromBehind_99 : decode cX1_linesFromBehind 99 = .ok (.istore_n 3, 1) := by decide +kernel
theorem dX1_linesFromBehind_100 : decode cX1_linesFromBehind 100 = .ok (.iinc 5 1, 3) := by decide +kernel
theorem dX1_linesFromBehind_103 : decode cX1_linesFromBehind 103 = .ok (.goto (-58), 3) := by decide +kernel
theorem dX1_linesFromBehind_106 : decode cX1_linesFromBehind 106 = .ok (.aload_n 0, 1) := by decide +kernel
theorem dX1_linesFromBehind_107 : decode cX1_linesFromBehind 107 = .ok (.getfield 21, 3) := by decide +kernel
theorem dX1_linesFromBehind_110 : decode cX1_linesFromBehind 110 = .ok (.iload_n 2, 1) := by decide +kernel
theorem dX1_linesFromBehind_111 : decode cX1_linesFromBehind 111 = .ok (.iload_n 3, 1) := by decide +kernel
theorem dX1_linesFromBehind_112 : decode cX1_linesFromBehind 112 = .ok (.iastore, 1) := by decide +kernel
theorem dX1_linesFromBehind_113 : decode cX1_linesFromBehind 113 = .ok (.iinc 2 (-1), 3) := by decide +kernel
theorem dX1_linesFromBehind_116 : decode cX1_linesFromBehind 116 = .ok (.goto (-99), 3) := by decide +kernel
theorem dX1_linesFromBehind_119 : decode cX1_linesFromBehind 119 = .ok (.aload_n 0, 1) := by decide +kernel
theorem dX1_linesFromBehind_120 : decode cX1_linesFromBehind 120 = .ok (.getfield 21, 3) := by decide +kernel
theorem dX1_linesFromBehind_123 : decode cX1_linesFromBehind 123 = .ok (.iconst 0, 1) := by decide +kernel
theorem dX1_linesFromBehind_124 : decode cX1_linesFromBehind 124 = .ok (.iaload, 1) := by decide +kernel
theorem dX1_linesFromBehind_125 : decode cX1_linesFromBehind 125 = .ok (.ireturn, 1) := by decide +kernel
theorem dX2_init_0 : decode cX2_init 0 = .ok (.aload_n 0, 1) := by decide +kernel
theorem dX2_init_1 : decode cX2_init 1 = .ok (.invokespecial 3, 3) := by decide +kernel
theorem dX2_init_4 : decode cX2_init 4 = .ok (.aload_n 0, 1) := by decide +kernel
theorem dX2_init_5 : decode cX2_init 5 = .ok (.bipush 10, 2) := by decide +kernel
theorem dX2_init_7 : decode cX2_init 7 = .ok (.newarray .int, 2) := by decide +kernel
theorem dX2_init_9 : decode cX2_init 9 = .ok (.putfield 9, 3) := by decide +kernel
theorem dX2_init_12 : decode cX2_init 12 = .ok (.aload_n 0, 1) := by decide +kernel
theorem dX2_init_13 : decode cX2_init 13 = .ok (.bipush 10, 2) := by decide +kernel
theorem dX2_init_15 : decode cX2_init 15 = .ok (.newarray .int, 2) := by decide +kernel
theorem dX2_init_17 : decode cX2_init 17 = .ok (.putfield 15, 3) := by decide +kernel
theorem dX2_init_20 : decode cX2_init 20 = .ok (.aload_n 0, 1) := by decide +kernel
theorem dX2_init_21 : decode cX2_init 21 = .ok (.bipush 10, 2) := by decide +kernel
theorem dX2_init_23 : decode cX2_init 23 = .ok (.newarray .int, 2) := by decide +kernel
theorem dX2_init_25 : decode cX2_init 25 = .ok (.putfield 18, 3) := by decide +kernel
theorem dX2_init_28 : decode cX2_init 28 = .ok (.aload_n 0, 1) := by decide +kernel
theorem dX2_init_29 : decode cX2_init 29 = .ok (.bipush 16, 2) := by decide +kernel
theorem dX2_init_31 : decode cX2_init 31 = .ok (.newarray .int, 2) := by decide +kernel
theorem dX2_init_33 : decode cX2_init 33 = .ok (.putfield 21, 3) := by decide +kernel
theorem dX2_init_36 : decode cX2_init 36 = .ok (.aload_n 0, 1) := by decide +kernel
theorem dX2_init_37 : decode cX2_init 37 = .ok (.iconst 4, 1) := by decide +kernel
theorem dX2_init_38 : decode cX2_init 38 = .ok (.newarray .int, 2) := by decide +kernel
theorem dX2_init_40 : decode cX2_init 40 = .ok (.putfield 24, 3) := by decide +kernel
theorem dX2_init_43 : decode cX2_init 43 = .ok (.aload_n 0, 1) := by decide +kernel
theorem dX2_init_44 : decode cX2_init 44 = .ok (.bipush 40, 2) := by decide +kernel
theorem dX2_init_46 : decode cX2_init 46 = .ok (.newarray .int, 2) := by decide +kernel
theorem dX2_init_48 : decode cX2_init 48 = .ok (.putfield 27, 3) := by decide +kernel
theorem dX2_init_51 : decode cX2_init 51 = .ok (.aload_n 0, 1) := by decide +kernel
theorem dX2_init_52 : decode cX2_init 52 = .ok (.bipush 40, 2) := by decide +kernel
theorem dX2_init_54 : decode cX2_init 54 = .ok (.newarray .int, 2) := by decide +kernel
theorem dX2_init_56 : decode cX2_init 56 = .ok (.putfield 30, 3) := by decide +kernel
theorem dX2_init_59 : decode cX2_init 59 = .ok (.aload_n 0, 1) := by decide +kernel
theorem dX2_init_60 : decode cX2_init 60 = .ok (.iconst 0, 1) := by decide +kernel
theorem dX2_init_61 : decode cX2_init 61 = .ok (.putfield 33, 3) := by decide +kernel
theorem dX2_init_64 : decode cX2_init 64 = .ok (.aload_n 0, 1) := by decide +kernel
theorem dX2_init_65 : decode cX2_init 65 = .ok (.new 37, 3) := by decide +kernel
theorem dX2_init_68 : decode cX2_init 68 = .ok (.dup, 1) := by decide +kernel
theorem dX2_init_69 : decode cX2_init 69 = .ok (.invokespecial 39, 3) := by decide +kernel
theorem dX2_init_72 : decode cX2_init 72 = .ok (.putfield 40, 3) := by decide +kernel
theorem dX2_init_75 : decode cX2_init 75 = .ok (.aload_n 0, 1) := by decide +kernel
theorem dX2_init_76 : decode cX2_init 76 = .ok (.iconst 0, 1) := by decide +kernel
theorem dX2_init_77 : decode cX2_init 77 = .ok (.putfield 44, 3) := by decide +kernel
theorem dX2_init_80 : decode cX2_init 80 = .ok (.aload_n 0, 1) := by decide +kernel
theorem dX2_init_81 : decode cX2_init 81 = .ok (.iconst 0, 1) := by decide +kernel
theorem dX2_init_82 : decode cX2_init 82 = .ok (.putfield 47, 3) := by decide +kernel
theorem dX2_init_85 : decode cX2_init 85 = .ok (.aload_n 0, 1) := by decide +kernel
theorem dX2_init_86 : decode cX2_init 86 = .ok (.iconst 0, 1) := by decide +kernel
theorem dX2_init_87 : decode cX2_init 87 = .ok (.putfield 50, 3) := by decide +kernel
theorem dX2_init_90 : decode cX2_init 90 = .ok (.iconst 0, 1) := by decide +kernel
theorem dX2_init_91 : decode cX2_init 91 = .ok (.istore_n 1, 1) := by decide +kernel
theorem dX2_init_92 : decode cX2_init 92 = .ok (.iload_n 1, 1) := by decide +kernel
theorem dX2_init_93 : decode cX2_init 93 = .ok (.bipush 10, 2) := by decide +kernel
theorem dX2_init_95 : decode cX2_init 95 = .ok (.if_icmp .ge 35, 3) := by decide +kernel
theorem dX2_init_98 : decode cX2_init 98 = .ok (.aload_n 0, 1) := by decide +kernel
theorem dX2_init_99 : decode cX2_init 99 = .ok (.getfield 9, 3) := by decide +kernel
theorem dX2_init_102 : decode cX2_init 102 = .ok (.iload_n 1, 1) := by decide +kernel
theorem dX2_init_103 : decode cX2_init 103 = .ok (.bipush 16, 2) := by decide +kernel
theorem dX2_init_105 : decode cX2_init 105 = .ok (.iastore, 1) := by decide +kernel
theorem dX2_init_106 : decode cX2_init 106 = .ok (.aload_n 0, 1) := by decide +kernel
theorem dX2_init_107 : decode cX2_init 107 = .ok (.getfield 15, 3) := by decide +kernel
theorem dX2_init_110 : decode cX2_init 110 = .ok (.iload_n 1, 1) := by decide +kernel
theorem dX2_init_111 : decode cX2_init 111 = .ok (.iload_n 1, 1) := by decide +kernel
theorem dX2_init_112 : decode cX2_init 112 = .ok (.iconst 4, 1) := by decide +kernel
theorem dX2_init_113 : decode cX2_init 113 = .ok (.irem, 1) := by decide +kernel
theorem dX2_init_114 : decode cX2_init 114 = .ok (.iastore, 1) := by decide +kernel
theorem dX2_init_115 : decode cX2_init 115 = .ok (.aload_n 0, 1) := by decide +kernel
theorem dX2_init_116 : decode cX2_init 116 = .ok (.getfield 18, 3) := by decide +kernel
theorem dX2_init_119 : decode cX2_init 119 = .ok (.iload_n 1, 1) := by decide +kernel
theorem dX2_init_120 : decode cX2_init 120 = .ok (.iload_n 1, 1) := by decide +kernel
theorem dX2_init_121 : decode cX2_init 121 = .ok (.iconst 4, 1) := by decide +kernel
theorem dX2_init_122 : decode cX2_init 122 = .ok (.irem, 1) := by decide +kernel
theorem dX2_init_123 : decode cX2_init 123 = .ok (.iastore, 1) := by decide +kernel
theorem dX2_init_124 : decode cX2_init 124 = .ok (.iinc 1 1, 3) := by decide +kernel
theorem dX2_init_127 : decode cX2_init 127 = .ok (.goto (-35), 3) := by decide +kernel
theorem dX2_init_130 : decode cX2_init 130 = .ok (.iconst 0, 1) := by decide +kernel
theorem dX2_init_131 : decode cX2_init 131 = .ok (.istore_n 1, 1) := by decide +kernel
theorem dX2_init_132 : decode cX2_init 132 = .ok (.iload_n 1, 1) := by decide +kernel
theorem dX2_init_133 : decode cX2_init 133 = .ok (.iconst 4, 1) := by decide +kernel
theorem dX2_init_134 : decode cX2_init 134 = .ok (.if_icmp .ge 20, 3) := by decide +kernel
theorem dX2_init_137 : decode cX2_init 137 = .ok (.aload_n 0, 1) := by decide +kernel
theorem dX2_init_138 : decode cX2_init 138 = .ok (.getfield 24, 3) := by decide +kernel
theorem dX2_init_141 : decode cX2_init 141 = .ok (.iload_n 1, 1) := by decide +kernel
theorem dX2_init_142 : decode cX2_init 142 = .ok (.getstatic 53, 3) := by decide +kernel
theorem dX2_init_145 : decode cX2_init 145 = .ok (.iload_n 1, 1) := by decide +kernel
theorem dX2_init_146 : decode cX2_init 146 = .ok (.iaload, 1) := by decide +kernel
theorem dX2_init_147 : decode cX2_init 147 = .ok (.iastore, 1) := by decide +kernel
theorem dX2_init_148 : decode cX2_init 148 = .ok (.iinc 1 1, 3) := by decide +kernel
theorem dX2_init_151 : decode cX2_init 151 = .ok (.goto (-19), 3) := by decide +kernel
theorem dX2_init_154 : decode cX2_init 154 = .ok (.return_, 1) := by decide +kernel
theorem dX2_becomeLike_0 : decode cX2_becomeLike 0 = .ok (.aload_n 1, 1) := by decide +kernel
theorem dX2_becomeLike_1 : decode cX2_becomeLike 1 = .ok (.getfield 9, 3) := by decide +kernel
theorem dX2_becomeLike_4 : decode cX2_becomeLike 4 = .ok (.iconst 0, 1) := by decide +kernel
theorem dX2_becomeLike_5 : decode cX2_becomeLike 5 = .ok (.aload_n 0, 1) := by decide +kernel
theorem dX2_becomeLike_6 : decode cX2_becomeLike 6 = .ok (.getfield 9, 3) := by decide +kernel
theorem dX2_becomeLike_9 : decode cX2_becomeLike 9 = .ok (.iconst 0, 1) := by decide +kernel
theorem dX2_becomeLike_10 : decode cX2_becomeLike 10 = .ok (.bipush 10, 2) := by decide +kernel
theorem dX2_becomeLike_12 : decode cX2_becomeLike 12 = .ok (.invokestatic 56, 3) := by decide +kernel
theorem dX2_becomeLike_15 : decode cX2_becomeLike 15 = .ok (.aload_n 1, 1) := by decide +kernel
theorem dX2_becomeLike_16 : decode cX2_becomeLike 16 = .ok (.getfield 15, 3) := by decide +kernel
theorem dX2_becomeLike_19 : decode cX2_becomeLike 19 = .ok (.iconst 0, 1) := by decide +kernel
theorem dX2_becomeLike_20 : decode cX2_becomeLike 20 = .ok (.aload_n 0, 1) := by decide +kernel
theorem dX2_becomeLike_21 : decode cX2_becomeLike 21 = .ok (.getfield 15, 3) := by decide +kernel
theorem dX2_becomeLike_24 : decode cX2_becomeLike 24 = .ok (.iconst 0, 1) := by decide +kernel
theorem dX2_becomeLike_25 : decode cX2_becomeLike 25 = .ok (.bipush 10, 2) := by decide +kernel
theorem dX2_becomeLike_27 : decode cX2_becomeLike 27 = .ok (.invokestatic 56, 3) := by decide +kernel
theorem dX2_becomeLike_30 : decode cX2_becomeLike 30 = .ok (.aload_n 1, 1) := by decide +kernel
theorem dX2_becomeLike_31 : decode cX2_becomeLike 31 = .ok (.getfield 18, 3) := by decide +kernel
theorem dX2_becomeLike_34 : decode cX2_becomeLike 34 = .ok (.iconst 0, 1) := by decide +kernel
theorem dX2_becomeLike_35 : decode cX2_becomeLike 35 = .ok (.aload_n 0, 1) := by decide +kernel
theorem dX2_becomeLike_36 : decode cX2_becomeLike 36 = .ok (.getfield 18, 3) := by decide +kernel
theorem dX2_becomeLike_39 : decode cX2_becomeLike 39 = .ok (.iconst 0, 1) := by decide +kernel
theorem dX2_becomeLike_40 : decode cX2_becomeLike 40 = .ok (.bipush 10, 2) := by decide +kernel
theorem dX2_becomeLike_42 : decode cX2_becomeLike 42 = .ok (.invokestatic 56, 3) := by decide +kernel
theorem dX2_becomeLike_45 : decode cX2_becomeLike 45 = .ok (.aload_n 1, 1) := by decide +kernel
theorem dX2_becomeLike_46 : decode cX2_becomeLike 46 = .ok (.getfield 21, 3) := by decide +kernel
theorem dX2_becomeLike_49 : decode cX2_becomeLike 49 = .ok (.iconst 0, 1) := by decide +kernel
theorem dX2_becomeLike_50 : decode cX2_becomeLike 50 = .ok (.aload_n 0, 1) := by decide +kernel
theorem dX2_becomeLike_51 : decode cX2_becomeLike 51 = .ok (.getfield 21, 3) := by decide +kernel
theorem dX2_becomeLike_54 : decode cX2_becomeLike 54 = .ok (.iconst 0, 1) := by decide +kernel
theorem dX2_becomeLike_55 : decode cX2_becomeLike 55 = .ok (.bipush 16, 2) := by decide +kernel
theorem dX2_becomeLike_57 : decode cX2_becomeLike 57 = .ok (.invokestatic 56, 3) := by decide +kernel
theorem dX2_becomeLike_60 : decode cX2_becomeLike 60 = .ok (.aload_n 1, 1) := by decide +kernel
theorem dX2_becomeLike_61 : decode cX2_becomeLike 61 = .ok (.getfield 24, 3) := by decide +kernel
theorem dX2_becomeLike_64 : decode cX2_becomeLike 64 = .ok (.iconst 0, 1) := by decide +kernel
theorem dX2_becomeLike_65 : decode cX2_becomeLike 65 = .ok (.aload_n 0, 1) := by decide +kernel
theorem dX2_becomeLike_66 : decode cX2_becomeLike 66 = .ok (.getfield 24, 3) := by decide +kernel
theorem dX2_becomeLike_69 : decode cX2_becomeLike 69 = .ok (.iconst 0, 1) := by decide +kernel
theorem dX2_becomeLike_70 : decode cX2_becomeLike 70 = .ok (.iconst 4, 1) := by decide +kernel
theorem dX2_becomeLike_71 : decode cX2_becomeLike 71 = .ok (.invokestatic 56, 3) := by decide +kernel
theorem dX2_becomeLike_74 : decode cX2_becomeLike 74 = .ok (.aload_n 1, 1) := by decide +kernel
theorem dX2_becomeLike_75 : decode cX2_becomeLike 75 = .ok (.getfield 27, 3) := by decide +kernel
theorem dX2_becomeLike_78 : decode cX2_becomeLike 78 = .ok (.iconst 0, 1) := by decide +kernel
theorem dX2_becomeLike_79 : decode cX2_becomeLike 79 = .ok (.aload_n 0, 1) := by decide +kernel
theorem dX2_becomeLike_80 : decode cX2_becomeLike 80 = .ok (.getfield 27, 3) := by decide +kernel
theorem dX2_becomeLike_83 : decode cX2_becomeLike 83 = .ok (.iconst 0, 1) := by decide +kernel
theorem dX2_becomeLike_84 : decode cX2_becomeLike 84 = .ok (.bipush 40, 2) := by decide +kernel
theorem dX2_becomeLike_86 : decode cX2_becomeLike 86 = .ok (.invokestatic 56, 3) := by decide +kernel
theorem dX2_becomeLike_89 : decode cX2_becomeLike 89 = .ok (.aload_n 1, 1) := by decide +kernel
theorem dX2_becomeLike_90 : decode cX2_becomeLike 90 = .ok (.getfield 30, 3) := by decide +kernel
theorem dX2_becomeLike_93 : decode cX2_becomeLike 93 = .ok (.iconst 0, 1) := by decide +kernel
theorem dX2_becomeLike_94 : decode cX2_becomeLike 94 = .ok (.aload_n 0, 1) := by decide +kernel
theorem dX2_becomeLike_95 : decode cX2_becomeLike 95 = .ok (.getfield 30, 3) := by decide +kernel
theorem dX2_becomeLike_98 : decode cX2_becomeLike 98 = .ok (.iconst 0, 1) := by decide +kernel
theorem dX2_becomeLike_99 : decode cX2_becomeLike 99 = .ok (.bipush 40, 2) := by decide +kernel
theorem dX2_becomeLike_101 : decode cX2_becomeLike 101 = .ok (.invokestatic 56, 3) := by decide +kernel
theorem dX2_becomeLike_104 : decode cX2_becomeLike 104 = .ok (.aload_n 0, 1) := by decide +kernel
theorem dX2_becomeLike_105 : decode cX2_becomeLike 105 = .ok (.aload_n 1, 1) := by decide +kernel
theorem dX2_becomeLike_106 : decode cX2_becomeLike 106 = .ok (.getfield 33, 3) := by decide +kernel
theorem dX2_becomeLike_109 : decode cX2_becomeLike 109 = .ok (.putfield 33, 3) := by decide +kernel
theorem dX2_becomeLike_112 : decode cX2_becomeLike 112 = .ok (.aload_n 0, 1) := by decide +kernel
theorem dX2_becomeLike_113 : decode cX2_becomeLike 113 = .ok (.getfield 40, 3) := by decide +kernel
theorem dX2_becomeLike_116 : decode cX2_becomeLike 116 = .ok (.aload_n 1, 1) := by decide +kernel
theorem dX2_becomeLike_117 : decode cX2_becomeLike 117 = .ok (.getfield 40, 3) := by decide +kernel
theorem dX2_becomeLike_120 : decode cX2_becomeLike 120 = .ok (.invokevirtual 62, 3) := by decide +kernel
theorem dX2_becomeLike_123 : decode cX2_becomeLike 123 = .ok (.aload_n 0, 1) := by decide +kernel
theorem dX2_becomeLike_124 : decode cX2_becomeLike 124 = .ok (.aload_n 1, 1) := by decide +kernel
theorem dX2_becomeLike_125 : decode cX2_becomeLike 125 = .ok (.getfield 44, 3) := by decide +kernel
theorem dX2_becomeLike_128 : decode cX2_becomeLike 128 = .ok (.putfield 44, 3) := by decide +kernel
theorem dX2_becomeLike_131 : decode cX2_becomeLike 131 = .ok (.aload_n 0, 1) := by decide +kernel
theorem dX2_becomeLike_132 : decode cX2_becomeLike 132 = .ok (.aload_n 1, 1) := by decide +kernel
theorem dX2_becomeLike_133 : decode cX2_becomeLike 133 = .ok (.getfield 47, 3) := by decide +kernel
theorem dX2_becomeLike_136 : decode cX2_becomeLike 136 = .ok (.putfield 47, 3) := by decide +kernel
theorem dX2_becomeLike_139 : decode cX2_becomeLike 139 = .ok (.aload_n 0, 1) := by decide +kernel
theorem dX2_becomeLike_140 : decode cX2_becomeLike 140 = .ok (.aload_n 1, 1) := by decide +kernel
theorem dX2_becomeLike_141 : decode cX2_becomeLike 141 = .ok (.getfield 50, 3) := by decide +kernel
theorem dX2_becomeLike_144 : decode cX2_becomeLike 144 = .ok (.putfield 50, 3) := by decide +kernel
theorem dX2_becomeLike_147 : decode cX2_becomeLike 147 = .ok (.return_, 1) := by decide +kernel
theorem dX2_shapesOfPair_0 : decode cX2_shapesOfPair 0 = .ok (.iconst 4, 1) := by decide +kernel
theorem dX2_shapesOfPair_1 : decode cX2_shapesOfPair 1 = .ok (.aload_n 0, 1) := by decide +kernel
theorem dX2_shapesOfPair_2 : decode cX2_shapesOfPair 2 = .ok (.getfield 18, 3) := by decide +kernel
theorem dX2_shapesOfPair_5 : decode cX2_shapesOfPair 5 = .ok (.iload_n 1, 1) := by decide +kernel
theorem dX2_shapesOfPair_6 : decode cX2_shapesOfPair 6 = .ok (.bipush 10, 2) := by decide +kernel
theorem dX2_shapesOfPair_8 : decode cX2_shapesOfPair 8 = .ok (.idiv, 1) := by decide +kernel
theorem dX2_shapesOfPair_9 : decode cX2_shapesOfPair 9 = .ok (.iaload, 1) := by decide +kernel
theorem dX2_shapesOfPair_10 : decode cX2_shapesOfPair 10 = .ok (.imul, 1) := by decide +kernel
theorem dX2_shapesOfPair_11 : decode cX2_shapesOfPair 11 = .ok (.aload_n 0, 1) := by decide +kernel
theorem dX2_shapesOfPair_12 : decode cX2_shapesOfPair 12 = .ok (.getfield 15, 3) := by decide +kernel
theorem dX2_shapesOfPair_15 : decode cX2_shapesOfPair 15 = .ok (.iload_n 1, 1) := by decide +kernel
theorem dX2_shapesOfPair_16 : decode cX2_shapesOfPair 16 = .ok (.bipush 10, 2) := by decide +kernel
theorem dX2_shapesOfPair_18 : decode cX2_shapesOfPair 18 = .ok (.irem, 1) := by decide +kernel
theorem dX2_shapesOfPair_19 : decode cX2_shapesOfPair 19 = .ok (.iaload, 1) := by decide +kernel
theorem dX2_shapesOfPair_20 : decode cX2_shapesOfPair 20 = .ok (.iadd, 1) := by decide +kernel
theorem dX2_shapesOfPair_21 : decode cX2_shapesOfPair 21 = .ok (.ireturn, 1) := by decide +kernel
theorem dX2_goThroughAgain_0 : decode cX2_goThroughAgain 0 = .ok (.aload_n 0, 1) := by decide +kernel
theorem dX2_goThroughAgain_1 : decode cX2_goThroughAgain 1 = .ok (.getfield 40, 3) := by decide +kernel
theorem dX2_goThroughAgain_4 : decode cX2_goThroughAgain 4 = .ok (.aload_n 0, 1) := by decide +kernel
theorem dX2_goThroughAgain_5 : decode cX2_goThroughAgain 5 = .ok (.iconst (-1), 1) := by decide +kernel
theorem dX2_goThroughAgain_6 : decode cX2_goThroughAgain 6 = .ok (.invokevirtual 66, 3) := by decide +kernel
theorem dX2_goThroughAgain_9 : decode cX2_goThroughAgain 9 = .ok (.aload_n 0, 1) := by decide +kernel
theorem dX2_goThroughAgain_10 : decode cX2_goThroughAgain 10 = .ok (.dup, 1) := by decide +kernel
theorem dX2_goThroughAgain_11 : decode cX2_goThroughAgain 11 = .ok (.getfield 50, 3) := by decide +kernel
theorem dX2_goThroughAgain_14 : decode cX2_goThroughAgain 14 = .ok (.iconst 1, 1) := by decide +kernel
theorem dX2_goThroughAgain_15 : decode cX2_goThroughAgain 15 = .ok (.iadd, 1) := by decide +kernel
theorem dX2_goThroughAgain_16 : decode cX2_goThroughAgain 16 = .ok (.putfield 50, 3) := by decide +kernel
theorem dX2_goThroughAgain_19 : decode cX2_goThroughAgain 19 = .ok (.return_, 1) := by decide +kernel
theorem dX2_addLesson_0 : decode cX2_addLesson 0 = .ok (.aload_n 0, 1) := by decide +kernel
theorem dX2_addLesson_1 : decode cX2_addLesson 1 = .ok (.getfield 27, 3) := by decide +kernel
theorem dX2_addLesson_4 : decode cX2_addLesson 4 = .ok (.aload_n 0, 1) := by decide +kernel
theorem dX2_addLesson_5 : decode cX2_addLesson 5 = .ok (.getfield 33, 3) := by decide +kernel
theorem dX2_addLesson_8 : decode cX2_addLesson 8 = .ok (.iload_n 1, 1) := by decide +kernel
theorem dX2_addLesson_9 : decode cX2_addLesson 9 = .ok (.iastore, 1) := by decide +kernel
theorem dX2_addLesson_10 : decode cX2_addLesson 10 = .ok (.aload_n 0, 1) := by decide +kernel
theorem dX2_addLesson_11 : decode cX2_addLesson 11 = .ok (.getfield 30, 3) := by decide +kernel
theorem dX2_addLesson_14 : decode cX2_addLesson 14 = .ok (.aload_n 0, 1) := by decide +kernel
theorem dX2_addLesson_15 : decode cX2_addLesson 15 = .ok (.getfield 33, 3) := by decide +kernel
theorem dX2_addLesson_18 : decode cX2_addLesson 18 = .ok (.iload_n 2, 1) := by decide +kernel
theorem dX2_addLesson_19 : decode cX2_addLesson 19 = .ok (.iastore, 1) := by decide +kernel
theorem dX2_addLesson_20 : decode cX2_addLesson 20 = .ok (.aload_n 0, 1) := by decide +kernel
theorem dX2_addLesson_21 : decode cX2_addLesson 21 = .ok (.getfield 40, 3) := by decide +kernel
theorem dX2_addLesson_24 : decode cX2_addLesson 24 = .ok (.getfield 70, 3) := by decide +kernel
theorem dX2_addLesson_27 : decode cX2_addLesson 27 = .ok (.aload_n 0, 1) := by decide +kernel
theorem dX2_addLesson_28 : decode cX2_addLesson 28 = .ok (.getfield 33, 3) := by decide +kernel
theorem dX2_addLesson_31 : decode cX2_addLesson 31 = .ok (.iconst 0, 1) := by decide +kernel
theorem dX2_addLesson_32 : decode cX2_addLesson 32 = .ok (.iastore, 1) := by decide +kernel
theorem dX2_addLesson_33 : decode cX2_addLesson 33 = .ok (.aload_n 0, 1) := by decide +kernel
theorem dX2_addLesson_34 : decode cX2_addLesson 34 = .ok (.dup, 1) := by decide +kernel
theorem dX2_addLesson_35 : decode cX2_addLesson 35 = .ok (.getfield 33, 3) := by decide +kernel
theorem dX2_addLesson_38 : decode cX2_addLesson 38 = .ok (.iconst 1, 1) := by decide +kernel
theorem dX2_addLesson_39 : decode cX2_addLesson 39 = .ok (.iadd, 1) := by decide +kernel
theorem dX2_addLesson_40 : decode cX2_addLesson 40 = .ok (.putfield 33, 3) := by decide +kernel
theorem dX2_addLesson_43 : decode cX2_addLesson 43 = .ok (.return_, 1) := by decide +kernel
theorem dX2_dropLesson_0 : decode cX2_dropLesson 0 = .ok (.iload_n 1, 1) := by decide +kernel
theorem dX2_dropLesson_1 : decode cX2_dropLesson 1 = .ok (.iconst 1, 1) := by decide +kernel
theorem dX2_dropLesson_2 : decode cX2_dropLesson 2 = .ok (.iadd, 1) := by decide +kernel
theorem dX2_dropLesson_3 : decode cX2_dropLesson 3 = .ok (.istore_n 2, 1) := by decide +kernel
theorem dX2_dropLesson_4 : decode cX2_dropLesson 4 = .ok (.iload_n 2, 1) := by decide +kernel
theorem dX2_dropLesson_5 : decode cX2_dropLesson 5 = .ok (.aload_n 0, 1) := by decide +kernel
theorem dX2_dropLesson_6 : decode cX2_dropLesson 6 = .ok (.getfield 33, 3) := by decide +kernel
theorem dX2_dropLesson_9 : decode cX2_dropLesson 9 = .ok (.if_icmp .ge 37, 3) := by decide +kernel
theorem dX2_dropLesson_12 : decode cX2_dropLesson 12 = .ok (.aload_n 0, 1) := by decide +kernel
theorem dX2_dropLesson_13 : decode cX2_dropLesson 13 = .ok (.getfield 27, 3) := by decide +kernel
theorem dX2_dropLesson_16 : decode cX2_dropLesson 16 = .ok (.iload_n 2, 1) := by decide +kernel
theorem dX2_dropLesson_17 : decode cX2_dropLesson 17 = .ok (.iconst 1, 1) := by decide +kernel
theorem dX2_dropLesson_18 : decode cX2_dropLesson 18 = .ok (.isub, 1) := by decide +kernel
theorem dX2_dropLesson_19 : decode cX2_dropLesson 19 = .ok (.aload_n 0, 1) := by decide +kernel
theorem dX2_dropLesson_20 : decode cX2_dropLesson 20 = .ok (.getfield 27, 3) := by decide +kernel
theorem dX2_dropLesson_23 : decode cX2_dropLesson 23 = .ok (.iload_n 2, 1) := by decide +kernel
theorem dX2_dropLesson_24 : decode cX2_dropLesson 24 = .ok (.iaload, 1) := by decide +kernel
theorem dX2_dropLesson_25 : decode cX2_dropLesson 25 = .ok (.iastore, 1) := by decide +kernel
theorem dX2_dropLesson_26 : decode cX2_dropLesson 26 = .ok (.aload_n 0, 1) := by decide +kernel
theorem dX2_dropLesson_27 : decode cX2_dropLesson 27 = .ok (.getfield 30, 3) := by decide +kernel
theorem dX2_dropLesson_30 : decode cX2_dropLesson 30 = .ok (.iload_n 2, 1) := by decide +kernel
theorem dX2_dropLesson_31 : decode cX2_dropLesson 31 = .ok (.iconst 1, 1) := by decide +kernel
theorem dX2_dropLesson_32 : decode cX2_dropLesson 32 = .ok (.isub, 1) := by decide +kernel
theorem dX2_dropLesson_33 : decode cX2_dropLesson 33 = .ok (.aload_n 0, 1) := by decide +kernel
theorem dX2_dropLesson_34 : decode cX2_dropLesson 34 = .ok (.getfield 30, 3) := by decide +kernel
theorem dX2_dropLesson_37 : decode cX2_dropLesson 37 = .ok (.iload_n 2, 1) := by decide +kernel
theorem dX2_dropLesson_38 : decode cX2_dropLesson 38 = .ok (.iaload, 1) := by decide +kernel
theorem dX2_dropLesson_39 : decode cX2_dropLesson 39 = .ok (.iastore, 1) := by decide +kernel
theorem dX2_dropLesson_40 : decode cX2_dropLesson 40 = .ok (.iinc 2 1, 3) := by decide +kernel
theorem dX2_dropLesson_43 : decode cX2_dropLesson 43 = .ok (.goto (-39), 3) := by decide +kernel
theorem dX2_dropLesson_46 : decode cX2_dropLesson 46 = .ok (.aload_n 0, 1) := by decide +kernel
theorem dX2_dropLesson_47 : decode cX2_dropLesson 47 = .ok (.dup, 1) := by decide +kernel
theorem dX2_dropLesson_48 : decode cX2_dropLesson 48 = .ok (.getfield 33, 3) := by decide +kernel
theorem dX2_dropLesson_51 : decode cX2_dropLesson 51 = .ok (.iconst 1, 1) := by decide +kernel
theorem dX2_dropLesson_52 : decode cX2_dropLesson 52 = .ok (.isub, 1) := by decide +kernel
theorem dX2_dropLesson_53 : decode cX2_dropLesson 53 = .ok (.putfield 33, 3) := by decide +kernel
theorem dX2_dropLesson_56 : decode cX2_dropLesson 56 = .ok (.return_, 1) := by decide +kernel
theorem dX2_lessonsWithLetter_0 : decode cX2_lessonsWithLetter 0 = .ok (.iconst 0, 1) := by decide +kernel
theorem dX2_lessonsWithLetter_1 : decode cX2_lessonsWithLetter 1 = .ok (.istore_n 2, 1) := by decide +kernel
theorem dX2_lessonsWithLetter_2 : decode cX2_lessonsWithLetter 2 = .ok (.iconst 0, 1) := by decide +kernel
theorem dX2_lessonsWithLetter_3 : decode cX2_lessonsWithLetter 3 = .ok (.istore_n 3, 1) := by decide +kernel
theorem dX2_lessonsWithLetter_4 : decode cX2_lessonsWithLetter 4 = .ok (.iload_n 3, 1) := by decide +kernel
theorem dX2_lessonsWithLetter_5 : decode cX2_lessonsWithLetter 5 = .ok (.aload_n 0, 1) := by decide +kernel
theorem dX2_lessonsWithLetter_6 : decode cX2_lessonsWithLetter 6 = .ok (.getfield 33, 3) := by decide +kernel
theorem dX2_lessonsWithLetter_9 : decode cX2_lessonsWithLetter 9 = .ok (.if_icmp .ge 41, 3) := by decide +kernel
theorem dX2_lessonsWithLetter_12 : decode cX2_lessonsWithLetter 12 = .ok (.aload_n 0, 1) := by decide +kernel
theorem dX2_lessonsWithLetter_13 : decode cX2_lessonsWithLetter 13 = .ok (.getfield 27, 3) := by decide +kernel
theorem dX2_lessonsWithLetter_16 : decode cX2_lessonsWithLetter 16 = .ok (.iload_n 3, 1) := by decide +kernel
theorem dX2_lessonsWithLetter_17 : decode cX2_lessonsWithLetter 17 = .ok (.iaload, 1) := by decide +kernel
theorem dX2_lessonsWithLetter_18 : decode cX2_lessonsWithLetter 18 = .ok (.bipush 10, 2) := by decide +kernel
theorem dX2_lessonsWithLetter_20 : decode cX2_lessonsWithLetter 20 = .ok (.idiv, 1) := by decide +kernel
theorem dX2_lessonsWithLetter_21 : decode cX2_lessonsWithLetter 21 = .ok (.iload_n 1, 1) := by decide +kernel
theorem dX2_lessonsWithLetter_22 : decode cX2_lessonsWithLetter 22 = .ok (.if_icmp .ne 6, 3) := by decide +kernel
theorem dX2_lessonsWithLetter_25 : decode cX2_lessonsWithLetter 25 = .ok (.iinc 2 1, 3) := by decide +kernel
theorem dX2_lessonsWithLetter_28 : decode cX2_lessonsWithLetter 28 = .ok (.aload_n 0, 1) := by decide +kernel
theorem dX2_lessonsWithLetter_29 : decode cX2_lessonsWithLetter 29 = .ok (.getfield 27, 3) := by decide +kernel
theorem dX2_lessonsWithLetter_32 : decode cX2_lessonsWithLetter 32 = .ok (.iload_n 3, 1) := by decide +kernel
theorem dX2_lessonsWithLetter_33 : decode cX2_lessonsWithLetter 33 = .ok (.iaload, 1) := by decide +kernel
theorem dX2_lessonsWithLetter_34 : decode cX2_lessonsWithLetter 34 = .ok (.bipush 10, 2) := by decide +kernel
theorem dX2_lessonsWithLetter_36 : decode cX2_lessonsWithLetter 36 = .ok (.irem, 1) := by decide +kernel
theorem dX2_lessonsWithLetter_37 : decode cX2_lessonsWithLetter 37 = .ok (.iload_n 1, 1) := by decide +kernel
theorem dX2_lessonsWithLetter_38 : decode cX2_lessonsWithLetter 38 = .ok (.if_icmp .ne 6, 3) := by decide +kernel
theorem dX2_lessonsWithLetter_41 : decode cX2_lessonsWithLetter 41 = .ok (.iinc 2 1, 3) := by decide +kernel
theorem dX2_lessonsWithLetter_44 : decode cX2_lessonsWithLetter 44 = .ok (.iinc 3 1, 3) := by decide +kernel
theorem dX2_lessonsWithLetter_47 : decode cX2_lessonsWithLetter 47 = .ok (.goto (-43), 3) := by decide +kernel
theorem dX2_lessonsWithLetter_50 : decode cX2_lessonsWithLetter 50 = .ok (.iload_n 2, 1) := by decide +kernel
theorem dX2_lessonsWithLetter_51 : decode cX2_lessonsWithLetter 51 = .ok (.ireturn, 1) := by decide +kernel
theorem dX2_idleLessons_0 : decode cX2_idleLessons 0 = .ok (.iconst 0, 1) := by decide +kernel
theorem dX2_idleLessons_1 : decode cX2_idleLessons 1 = .ok (.istore_n 1, 1) := by decide +kernel
theorem dX2_idleLessons_2 : decode cX2_idleLessons 2 = .ok (.iconst 0, 1) := by decide +kernel
theorem dX2_idleLessons_3 : decode cX2_idleLessons 3 = .ok (.istore_n 2, 1) := by decide +kernel
theorem dX2_idleLessons_4 : decode cX2_idleLessons 4 = .ok (.iload_n 2, 1) := by decide +kernel
theorem dX2_idleLessons_5 : decode cX2_idleLessons 5 = .ok (.aload_n 0, 1) := by decide +kernel
theorem dX2_idleLessons_6 : decode cX2_idleLessons 6 = .ok (.getfield 33, 3) := by decide +kernel
theorem dX2_idleLessons_9 : decode cX2_idleLessons 9 = .ok (.if_icmp .ge 21, 3) := by decide +kernel
theorem dX2_idleLessons_12 : decode cX2_idleLessons 12 = .ok (.iload_n 1, 1) := by decide +kernel
theorem dX2_idleLessons_13 : decode cX2_idleLessons 13 = .ok (.aload_n 0, 1) := by decide +kernel
theorem dX2_idleLessons_14 : decode cX2_idleLessons 14 = .ok (.getfield 40, 3) := by decide +kernel
theorem dX2_idleLessons_17 : decode cX2_idleLessons 17 = .ok (.getfield 70, 3) := by decide +kernel
theorem dX2_idleLessons_20 : decode cX2_idleLessons 20 = .ok (.iload_n 2, 1) := by decide +kernel
theorem dX2_idleLessons_21 : decode cX2_idleLessons 21 = .ok (.iaload, 1) := by decide +kernel
theorem dX2_idleLessons_22 : decode cX2_idleLessons 22 = .ok (.iadd, 1) := by decide +kernel
theorem dX2_idleLessons_23 : decode cX2_idleLessons 23 = .ok (.istore_n 1, 1) := by decide +kernel
theorem dX2_idleLessons_24 : decode cX2_idleLessons 24 = .ok (.iinc 2 1, 3) := by decide +kernel
theorem dX2_idleLessons_27 : decode cX2_idleLessons 27 = .ok (.goto (-23), 3) := by decide +kernel
theorem dX2_idleLessons_30 : decode cX2_idleLessons 30 = .ok (.iload_n 1, 1) := by decide +kernel
theorem dX2_idleLessons_31 : decode cX2_idleLessons 31 = .ok (.ireturn, 1) := by decide +kernel
theorem dX2_pairsWithShapes_0 : decode cX2_pairsWithShapes 0 = .ok (.iconst 0, 1) := by decide +kernel
theorem dX2_pairsWithShapes_1 : decode cX2_pairsWithShapes 1 = .ok (.istore_n 2, 1) := by decide +kernel
theorem dX2_pairsWithShapes_2 : decode cX2_pairsWithShapes 2 = .ok (.iconst 0, 1) := by decide +kernel
theorem dX2_pairsWithShapes_3 : decode cX2_pairsWithShapes 3 = .ok (.istore_n 3, 1) := by decide +kernel
theorem dX2_pairsWithShapes_4 : decode cX2_pairsWithShapes 4 = .ok (.iload_n 3, 1) := by decide +kernel
theorem dX2_pairsWithShapes_5 : decode cX2_pairsWithShapes 5 = .ok (.bipush 100, 2) := by decide +kernel
theorem dX2_pairsWithShapes_7 : decode cX2_pairsWithShapes 7 = .ok (.if_icmp .ge 21, 3) := by decide +kernel
theorem dX2_pairsWithShapes_10 : decode cX2_pairsWithShapes 10 = .ok (.aload_n 0, 1) := by decide +kernel
theorem dX2_pairsWithShapes_11 : decode cX2_pairsWithShapes 11 = .ok (.iload_n 3, 1) := by decide +kernel
theorem dX2_pairsWithShapes_12 : decode cX2_pairsWithShapes 12 = .ok (.invokevirtual 73, 3) := by decide +kernel
theorem dX2_pairsWithShapes_15 : decode cX2_pairsWithShapes 15 = .ok (.iload_n 1, 1) := by decide +kernel
theorem dX2_pairsWithShapes_16 : decode cX2_pairsWithShapes 16 = .ok (.if_icmp .ne 6, 3) := by decide +kernel
theorem dX2_pairsWithShapes_19 : decode cX2_pairsWithShapes 19 = .ok (.iinc 2 1, 3) := by decide +kernel
theorem dX2_pairsWithShapes_22 : decode cX2_pairsWithShapes 22 = .ok (.iinc 3 1, 3) := by decide +kernel
theorem dX2_pairsWithShapes_25 : decode cX2_pairsWithShapes 25 = .ok (.goto (-21), 3) := by decide +kernel
theorem dX2_pairsWithShapes_28 : decode cX2_pairsWithShapes 28 = .ok (.iload_n 2, 1) := by decide +kernel
theorem dX2_pairsWithShapes_29 : decode cX2_pairsWithShapes 29 = .ok (.ireturn, 1) := by decide +kernel
theorem dX2_learntPairsWithShapes_0 : decode cX2_learntPairsWithShapes 0 = .ok (.iconst 0, 1) := by decide +kernel
theorem dX2_learntPairsWithShapes_1 : decode cX2_learntPairsWithShapes 1 = .ok (.istore_n 2, 1) := by decide +kernel
theorem dX2_learntPairsWithShapes_2 : decode cX2_learntPairsWithShapes 2 = .ok (.iconst 0, 1) := by decide +kernel
theorem dX2_learntPairsWithShapes_3 : decode cX2_learntPairsWithShapes 3 = .ok (.istore_n 3, 1) := by decide +kernel
theorem dX2_learntPairsWithShapes_4 : decode cX2_learntPairsWithShapes 4 = .ok (.iload_n 3, 1) := by decide +kernel
theorem dX2_learntPairsWithShapes_5 : decode cX2_learntPairsWithShapes 5 = .ok (.aload_n 0, 1) := by decide +kernel
theorem dX2_learntPairsWithShapes_6 : decode cX2_learntPairsWithShapes 6 = .ok (.getfield 40, 3) := by decide +kernel
theorem dX2_learntPairsWithShapes_9 : decode cX2_learntPairsWithShapes 9 = .ok (.getfield 77, 3) := by decide +kernel
theorem dX2_learntPairsWithShapes_12 : decode cX2_learntPairsWithShapes 12 = .ok (.if_icmp .ge 29, 3) := by decide +kernel
theorem dX2_learntPairsWithShapes_15 : decode cX2_learntPairsWithShapes 15 = .ok (.aload_n 0, 1) := by decide +kernel
theorem dX2_learntPairsWithShapes_16 : decode cX2_learntPairsWithShapes 16 = .ok (.aload_n 0, 1) := by decide +kernel
theorem dX2_learntPairsWithShapes_17 : decode cX2_learntPairsWithShapes 17 = .ok (.getfield 40, 3) := by decide +kernel
theorem dX2_learntPairsWithShapes_20 : decode cX2_learntPairsWithShapes 20 = .ok (.getfield 80, 3) := by decide +kernel
theorem dX2_learntPairsWithShapes_23 : decode cX2_learntPairsWithShapes 23 = .ok (.iload_n 3, 1) := by decide +kernel
theorem dX2_learntPairsWithShapes_24 : decode cX2_learntPairsWithShapes 24 = .ok (.iaload, 1) := by decide +kernel
theorem dX2_learntPairsWithShapes_25 : decode cX2_learntPairsWithShapes 25 = .ok (.invokevirtual 73, 3) := by decide +kernel
theorem dX2_learntPairsWithShapes_28 : decode cX2_learntPairsWithShapes 28 = .ok (.iload_n 1, 1) := by decide +kernel
theorem dX2_learntPairsWithShapes_29 : decode cX2_learntPairsWithShapes 29 = .ok (.if_icmp .ne 6, 3) := by decide +kernel
theorem dX2_learntPairsWithShapes_32 : decode cX2_learntPairsWithShapes 32 = .ok (.iinc 2 1, 3) := by decide +kernel
theorem dX2_learntPairsWithShapes_35 : decode cX2_learntPairsWithShapes 35 = .ok (.iinc 3 1, 3) := by decide +kernel
theorem dX2_learntPairsWithShapes_38 : decode cX2_learntPairsWithShapes 38 = .ok (.goto (-34), 3) := by decide +kernel
theorem dX2_learntPairsWithShapes_41 : decode cX2_learntPairsWithShapes 41 = .ok (.iload_n 2, 1) := by decide +kernel
theorem dX2_learntPairsWithShapes_42 : decode cX2_learntPairsWithShapes 42 = .ok (.ireturn, 1) := by decide +kernel
theorem dX2_shapesOffTheirBase_0 : decode cX2_shapesOffTheirBase 0 = .ok (.iconst 0, 1) := by decide +kernel
theorem dX2_shapesOffTheirBase_1 : decode cX2_shapesOffTheirBase 1 = .ok (.istore_n 1, 1) := by decide +kernel
theorem dX2_shapesOffTheirBase_2 : decode cX2_shapesOffTheirBase 2 = .ok (.iconst 0, 1) := by decide +kernel
theorem dX2_shapesOffTheirBase_3 : decode cX2_shapesOffTheirBase 3 = .ok (.istore_n 2, 1) := by decide +kernel
theorem dX2_shapesOffTheirBase_4 : decode cX2_shapesOffTheirBase 4 = .ok (.iload_n 2, 1) := by decide +kernel
theorem dX2_shapesOffTheirBase_5 : decode cX2_shapesOffTheirBase 5 = .ok (.bipush 16, 2) := by decide +kernel
theorem dX2_shapesOffTheirBase_7 : decode cX2_shapesOffTheirBase 7 = .ok (.if_icmp .ge 30, 3) := by decide +kernel
theorem dX2_shapesOffTheirBase_10 : decode cX2_shapesOffTheirBase 10 = .ok (.aload_n 0, 1) := by decide +kernel
theorem dX2_shapesOffTheirBase_11 : decode cX2_shapesOffTheirBase 11 = .ok (.getfield 40, 3) := by decide +kernel
theorem dX2_shapesOffTheirBase_14 : decode cX2_shapesOffTheirBase 14 = .ok (.getfield 83, 3) := by decide +kernel
theorem dX2_shapesOffTheirBase_17 : decode cX2_shapesOffTheirBase 17 = .ok (.iload_n 2, 1) := by decide +kernel
theorem dX2_shapesOffTheirBase_18 : decode cX2_shapesOffTheirBase 18 = .ok (.iaload, 1) := by decide +kernel
theorem dX2_shapesOffTheirBase_19 : decode cX2_shapesOffTheirBase 19 = .ok (.aload_n 0, 1) := by decide +kernel
theorem dX2_shapesOffTheirBase_20 : decode cX2_shapesOffTheirBase 20 = .ok (.getfield 21, 3) := by decide +kernel
theorem dX2_shapesOffTheirBase_23 : decode cX2_shapesOffTheirBase 23 = .ok (.iload_n 2, 1) := by decide +kernel
theorem dX2_shapesOffTheirBase_24 : decode cX2_shapesOffTheirBase 24 = .ok (.iaload, 1) := by decide +kernel
theorem dX2_shapesOffTheirBase_25 : decode cX2_shapesOffTheirBase 25 = .ok (.if_icmp .eq 6, 3) := by decide +kernel
theorem dX2_shapesOffTheirBase_28 : decode cX2_shapesOffTheirBase 28 = .ok (.iinc 1 1, 3) := by decide +kernel
theorem dX2_shapesOffTheirBase_31 : decode cX2_shapesOffTheirBase 31 = .ok (.iinc 2 1, 3) := by decide +kernel
theorem dX2_shapesOffTheirBase_34 : decode cX2_shapesOffTheirBase 34 = .ok (.goto (-30), 3) := by decide +kernel
theorem dX2_shapesOffTheirBase_37 : decode cX2_shapesOffTheirBase 37 = .ok (.iload_n 1, 1) := by decide +kernel
theorem dX2_shapesOffTheirBase_38 : decode cX2_shapesOffTheirBase 38 = .ok (.ireturn, 1) := by decide +kernel
theorem dX3_init_0 : decode cX3_init 0 = .ok (.aload_n 0, 1) := by decide +kernel
theorem dX3_init_1 : decode cX3_init 1 = .ok (.invokespecial 3, 3) := by decide +kernel
theorem dX3_init_4 : decode cX3_init 4 = .ok (.aload_n 0, 1) := by decide +kernel
theorem dX3_init_5 : decode cX3_init 5 = .ok (.bipush 16, 2) := by decide +kernel
theorem dX3_init_7 : decode cX3_init 7 = .ok (.newarray .int, 2) := by decide +kernel
theorem dX3_init_9 : decode cX3_init 9 = .ok (.putfield 9, 3) := by decide +kernel
theorem dX3_init_12 : decode cX3_init 12 = .ok (.aload_n 0, 1) := by decide +kernel
theorem dX3_init_13 : decode cX3_init 13 = .ok (.bipush 100, 2) := by decide +kernel
theorem dX3_init_15 : decode cX3_init 15 = .ok (.newarray .int, 2) := by decide +kernel
theorem dX3_init_17 : decode cX3_init 17 = .ok (.putfield 15, 3) := by decide +kernel
theorem dX3_init_20 : decode cX3_init 20 = .ok (.aload_n 0, 1) := by decide +kernel
theorem dX3_init_21 : decode cX3_init 21 = .ok (.bipush 100, 2) := by decide +kernel
theorem dX3_init_23 : decode cX3_init 23 = .ok (.newarray .int, 2) := by decide +kernel
theorem dX3_init_25 : decode cX3_init 25 = .ok (.putfield 18, 3) := by decide +kernel
theorem dX3_init_28 : decode cX3_init 28 = .ok (.aload_n 0, 1) := by decide +kernel
theorem dX3_init_29 : decode cX3_init 29 = .ok (.bipush 100, 2) := by decide +kernel
theorem dX3_init_31 : decode cX3_init 31 = .ok (.newarray .int, 2) := by decide +kernel
theorem dX3_init_33 : decode cX3_init 33 = .ok (.putfield 21, 3) := by decide +kernel
theorem dX3_init_36 : decode cX3_init 36 = .ok (.aload_n 0, 1) := by decide +kernel
theorem dX3_init_37 : decode cX3_init 37 = .ok (.bipush 100, 2) := by decide +kernel
theorem dX3_init_39 : decode cX3_init 39 = .ok (.newarray .int, 2) := by decide +kernel
theorem dX3_init_41 : decode cX3_init 41 = .ok (.putfield 24, 3) := by decide +kernel
theorem dX3_init_44 : decode cX3_init 44 = .ok (.aload_n 0, 1) := by decide +kernel
theorem dX3_init_45 : decode cX3_init 45 = .ok (.bipush 100, 2) := by decide +kernel
theorem dX3_init_47 : decode cX3_init 47 = .ok (.newarray .int, 2) := by decide +kernel
theorem dX3_init_49 : decode cX3_init 49 = .ok (.putfield 27, 3) := by decide +kernel
theorem dX3_init_52 : decode cX3_init 52 = .ok (.aload_n 0, 1) := by decide +kernel
theorem dX3_init_53 : decode cX3_init 53 = .ok (.iconst 0, 1) := by decide +kernel
theorem dX3_init_54 : decode cX3_init 54 = .ok (.putfield 30, 3) := by decide +kernel
theorem dX3_init_57 : decode cX3_init 57 = .ok (.aload_n 0, 1) := by decide +kernel
theorem dX3_init_58 : decode cX3_init 58 = .ok (.bipush 40, 2) := by decide +kernel
theorem dX3_init_60 : decode cX3_init 60 = .ok (.newarray .int, 2) := by decide +kernel
theorem dX3_init_62 : decode cX3_init 62 = .ok (.putfield 34, 3) := by decide +kernel
theorem dX3_init_65 : decode cX3_init 65 = .ok (.return_, 1) := by decide +kernel
theorem dX3_becomeLike_0 : decode cX3_becomeLike 0 = .ok (.aload_n 1, 1) := by decide +kernel
theorem dX3_becomeLike_1 : decode cX3_becomeLike 1 = .ok (.getfield 9, 3) := by decide +kernel
theorem dX3_becomeLike_4 : decode cX3_becomeLike 4 = .ok (.iconst 0, 1) := by decide +kernel
theorem dX3_becomeLike_5 : decode cX3_becomeLike 5 = .ok (.aload_n 0, 1) := by decide +kernel
theorem dX3_becomeLike_6 : decode cX3_becomeLike 6 = .ok (.getfield 9, 3) := by decide +kernel
theorem dX3_becomeLike_9 : decode cX3_becomeLike 9 = .ok (.iconst 0, 1) := by decide +kernel
theorem dX3_becomeLike_10 : decode cX3_becomeLike 10 = .ok (.bipush 16, 2) := by decide +kernel
theorem dX3_becomeLike_12 : decode cX3_becomeLike 12 = .ok (.invokestatic 37, 3) := by decide +kernel
theorem dX3_becomeLike_15 : decode cX3_becomeLike 15 = .ok (.aload_n 1, 1) := by decide +kernel
theorem dX3_becomeLike_16 : decode cX3_becomeLike 16 = .ok (.getfield 15, 3) := by decide +kernel
theorem dX3_becomeLike_19 : decode cX3_becomeLike 19 = .ok (.iconst 0, 1) := by decide +kernel
theorem dX3_becomeLike_20 : decode cX3_becomeLike 20 = .ok (.aload_n 0, 1) := by decide +kernel
theorem dX3_becomeLike_21 : decode cX3_becomeLike 21 = .ok (.getfield 15, 3) := by decide +kernel
theorem dX3_becomeLike_24 : decode cX3_becomeLike 24 = .ok (.iconst 0, 1) := by decide +kernel
theorem dX3_becomeLike_25 : decode cX3_becomeLike 25 = .ok (.bipush 100, 2) := by decide +kernel
theorem dX3_becomeLike_27 : decode cX3_becomeLike 27 = .ok (.invokestatic 37, 3) := by decide +kernel
theorem dX3_becomeLike_30 : decode cX3_becomeLike 30 = .ok (.aload_n 1, 1) := by decide +kernel
theorem dX3_becomeLike_31 : decode cX3_becomeLike 31 = .ok (.getfield 18, 3) := by decide +kernel
theorem dX3_becomeLike_34 : decode cX3_becomeLike 34 = .ok (.iconst 0, 1) := by decide +kernel
theorem dX3_becomeLike_35 : decode cX3_becomeLike 35 = .ok (.aload_n 0, 1) := by decide +kernel
theorem dX3_becomeLike_36 : decode cX3_becomeLike 36 = .ok (.getfield 18, 3) := by decide +kernel
theorem dX3_becomeLike_39 : decode cX3_becomeLike 39 = .ok (.iconst 0, 1) := by decide +kernel
theorem dX3_becomeLike_40 : decode cX3_becomeLike 40 = .ok (.bipush 100, 2) := by decide +kernel
theorem dX3_becomeLike_42 : decode cX3_becomeLike 42 = .ok (.invokestatic 37, 3) := by decide +kernel
theorem dX3_becomeLike_45 : decode cX3_becomeLike 45 = .ok (.aload_n 1, 1) := by decide +kernel
theorem dX3_becomeLike_46 : decode cX3_becomeLike 46 = .ok (.getfield 21, 3) := by decide +kernel
theorem dX3_becomeLike_49 : decode cX3_becomeLike 49 = .ok (.iconst 0, 1) := by decide +kernel
theorem dX3_becomeLike_50 : decode cX3_becomeLike 50 = .ok (.aload_n 0, 1) := by decide +kernel
theorem dX3_becomeLike_51 : decode cX3_becomeLike 51 = .ok (.getfield 21, 3) := by decide +kernel
theorem dX3_becomeLike_54 : decode cX3_becomeLike 54 = .ok (.iconst 0, 1) := by decide +kernel
theorem dX3_becomeLike_55 : decode cX3_becomeLike 55 = .ok (.bipush 100, 2) := by decide +kernel
theorem dX3_becomeLike_57 : decode cX3_becomeLike 57 = .ok (.invokestatic 37, 3) := by decide +kernel
theorem dX3_becomeLike_60 : decode cX3_becomeLike 60 = .ok (.aload_n 1, 1) := by decide +kernel
theorem dX3_becomeLike_61 : decode cX3_becomeLike 61 = .ok (.getfield 24, 3) := by decide +kernel
theorem dX3_becomeLike_64 : decode cX3_becomeLike 64 = .ok (.iconst 0, 1) := by decide +kernel
theorem dX3_becomeLike_65 : decode cX3_becomeLike 65 = .ok (.aload_n 0, 1) := by decide +kernel
theorem dX3_becomeLike_66 : decode cX3_becomeLike 66 = .ok (.getfield 24, 3) := by decide +kernel
theorem dX3_becomeLike_69 : decode cX3_becomeLike 69 = .ok (.iconst 0, 1) := by decide +kernel
theorem dX3_becomeLike_70 : decode cX3_becomeLike 70 = .ok (.bipush 100, 2) := by decide +kernel
theorem dX3_becomeLike_72 : decode cX3_becomeLike 72 = .ok (.invokestatic 37, 3) := by decide +kernel
theorem dX3_becomeLike_75 : decode cX3_becomeLike 75 = .ok (.aload_n 1, 1) := by decide +kernel
theorem dX3_becomeLike_76 : decode cX3_becomeLike 76 = .ok (.getfield 27, 3) := by decide +kernel
theorem dX3_becomeLike_79 : decode cX3_becomeLike 79 = .ok (.iconst 0, 1) := by decide +kernel
theorem dX3_becomeLike_80 : decode cX3_becomeLike 80 = .ok (.aload_n 0, 1) := by decide +kernel
theorem dX3_becomeLike_81 : decode cX3_becomeLike 81 = .ok (.getfield 27, 3) := by decide +kernel
theorem dX3_becomeLike_84 : decode cX3_becomeLike 84 = .ok (.iconst 0, 1) := by decide +kernel
theorem dX3_becomeLike_85 : decode cX3_becomeLike 85 = .ok (.bipush 100, 2) := by decide +kernel
theorem dX3_becomeLike_87 : decode cX3_becomeLike 87 = .ok (.invokestatic 37, 3) := by decide +kernel
theorem dX3_becomeLike_90 : decode cX3_becomeLike 90 = .ok (.aload_n 0, 1) := by decide +kernel
theorem dX3_becomeLike_91 : decode cX3_becomeLike 91 = .ok (.aload_n 1, 1) := by decide +kernel
theorem dX3_becomeLike_92 : decode cX3_becomeLike 92 = .ok (.getfield 30, 3) := by decide +kernel
theorem dX3_becomeLike_95 : decode cX3_becomeLike 95 = .ok (.putfield 30, 3) := by decide +kernel
theorem dX3_becomeLike_98 : decode cX3_becomeLike 98 = .ok (.aload_n 1, 1) := by decide +kernel
theorem dX3_becomeLike_99 : decode cX3_becomeLike 99 = .ok (.getfield 34, 3) := by decide +kernel
theorem dX3_becomeLike_102 : decode cX3_becomeLike 102 = .ok (.iconst 0, 1) := by decide +kernel
theorem dX3_becomeLike_103 : decode cX3_becomeLike 103 = .ok (.aload_n 0, 1) := by decide +kernel
theorem dX3_becomeLike_104 : decode cX3_becomeLike 104 = .ok (.getfield 34, 3) := by decide +kernel
theorem dX3_becomeLike_107 : decode cX3_becomeLike 107 = .ok (.iconst 0, 1) := by decide +kernel
theorem dX3_becomeLike_108 : decode cX3_becomeLike 108 = .ok (.bipush 40, 2) := by decide +kernel
theorem dX3_becomeLike_110 : decode cX3_becomeLike 110 = .ok (.invokestatic 37, 3) := by decide +kernel
theorem dX3_becomeLike_113 : decode cX3_becomeLike 113 = .ok (.return_, 1) := by decide +kernel
theorem dX3_kerningOfPair_0 : decode cX3_kerningOfPair 0 = .ok (.aload_n 0, 1) := by decide +kernel
theorem dX3_kerningOfPair_1 : decode cX3_kerningOfPair 1 = .ok (.getfield 9, 3) := by decide +kernel
theorem dX3_kerningOfPair_4 : decode cX3_kerningOfPair 4 = .ok (.aload_n 1, 1) := by decide +kernel
theorem dX3_kerningOfPair_5 : decode cX3_kerningOfPair 5 = .ok (.iload_n 2, 1) := by decide +kernel
theorem dX3_kerningOfPair_6 : decode cX3_kerningOfPair 6 = .ok (.invokevirtual 43, 3) := by decide +kernel
theorem dX3_kerningOfPair_9 : decode cX3_kerningOfPair 9 = .ok (.iaload, 1) := by decide +kernel
theorem dX3_kerningOfPair_10 : decode cX3_kerningOfPair 10 = .ok (.aload_n 0, 1) := by decide +kernel
theorem dX3_kerningOfPair_11 : decode cX3_kerningOfPair 11 = .ok (.getfield 15, 3) := by decide +kernel
theorem dX3_kerningOfPair_14 : decode cX3_kerningOfPair 14 = .ok (.iload_n 2, 1) := by decide +kernel
theorem dX3_kerningOfPair_15 : decode cX3_kerningOfPair 15 = .ok (.iaload, 1) := by decide +kernel
theorem dX3_kerningOfPair_16 : decode cX3_kerningOfPair 16 = .ok (.iadd, 1) := by decide +kernel
theorem dX3_kerningOfPair_17 : decode cX3_kerningOfPair 17 = .ok (.ireturn, 1) := by decide +kernel
theorem dX3_learnAllBut_0 : decode cX3_learnAllBut 0 = .ok (.aload_n 1, 1) := by decide +kernel
theorem dX3_learnAllBut_1 : decode cX3_learnAllBut 1 = .ok (.getfield 49, 3) := by decide +kernel
theorem dX3_learnAllBut_4 : decode cX3_learnAllBut 4 = .ok (.iconst 0, 1) := by decide +kernel
theorem dX3_learnAllBut_5 : decode cX3_learnAllBut 5 = .ok (.aload_n 0, 1) := by decide +kernel
theorem dX3_learnAllBut_6 : decode cX3_learnAllBut 6 = .ok (.getfield 9, 3) := by decide +kernel
theorem dX3_learnAllBut_9 : decode cX3_learnAllBut 9 = .ok (.iconst 0, 1) := by decide +kernel
theorem dX3_learnAllBut_10 : decode cX3_learnAllBut 10 = .ok (.bipush 16, 2) := by decide +kernel
theorem dX3_learnAllBut_12 : decode cX3_learnAllBut 12 = .ok (.invokestatic 37, 3) := by decide +kernel
theorem dX3_learnAllBut_15 : decode cX3_learnAllBut 15 = .ok (.aload_n 0, 1) := by decide +kernel
theorem dX3_learnAllBut_16 : decode cX3_learnAllBut 16 = .ok (.getfield 15, 3) := by decide +kernel
theorem dX3_learnAllBut_19 : decode cX3_learnAllBut 19 = .ok (.iconst 0, 1) := by decide +kernel
theorem dX3_learnAllBut_20 : decode cX3_learnAllBut 20 = .ok (.invokestatic 52, 3) := by decide +kernel
theorem dX3_learnAllBut_23 : decode cX3_learnAllBut 23 = .ok (.aload_n 0, 1) := by decide +kernel
theorem dX3_learnAllBut_24 : decode cX3_learnAllBut 24 = .ok (.getfield 18, 3) := by decide +kernel
theorem dX3_learnAllBut_27 : decode cX3_learnAllBut 27 = .ok (.iconst 0, 1) := by decide +kernel
theorem dX3_learnAllBut_28 : decode cX3_learnAllBut 28 = .ok (.invokestatic 52, 3) := by decide +kernel
theorem dX3_learnAllBut_31 : decode cX3_learnAllBut 31 = .ok (.aload_n 0, 1) := by decide +kernel
theorem dX3_learnAllBut_32 : decode cX3_learnAllBut 32 = .ok (.getfield 21, 3) := by decide +kernel
theorem dX3_learnAllBut_35 : decode cX3_learnAllBut 35 = .ok (.iconst 0, 1) := by decide +kernel
theorem dX3_learnAllBut_36 : decode cX3_learnAllBut 36 = .ok (.invokestatic 52, 3) := by decide +kernel
theorem dX3_learnAllBut_39 : decode cX3_learnAllBut 39 = .ok (.aload_n 0, 1) := by decide +kernel
theorem dX3_learnAllBut_40 : decode cX3_learnAllBut 40 = .ok (.getfield 24, 3) := by decide +kernel
theorem dX3_learnAllBut_43 : decode cX3_learnAllBut 43 = .ok (.iconst 0, 1) := by decide +kernel
theorem dX3_learnAllBut_44 : decode cX3_learnAllBut 44 = .ok (.invokestatic 52, 3) := by decide +kernel
theorem dX3_learnAllBut_47 : decode cX3_learnAllBut 47 = .ok (.aload_n 0, 1) := by decide +kernel
theorem dX3_learnAllBut_48 : decode cX3_learnAllBut 48 = .ok (.iconst 0, 1) := by decide +kernel
theorem dX3_learnAllBut_49 : decode cX3_learnAllBut 49 = .ok (.putfield 30, 3) := by decide +kernel
theorem dX3_learnAllBut_52 : decode cX3_learnAllBut 52 = .ok (.aload_n 0, 1) := by decide +kernel
theorem dX3_learnAllBut_53 : decode cX3_learnAllBut 53 = .ok (.getfield 34, 3) := by decide +kernel
theorem dX3_learnAllBut_56 : decode cX3_learnAllBut 56 = .ok (.iconst 0, 1) := by decide +kernel
theorem dX3_learnAllBut_57 : decode cX3_learnAllBut 57 = .ok (.invokestatic 52, 3) := by decide +kernel
theorem dX3_learnAllBut_60 : decode cX3_learnAllBut 60 = .ok (.iconst 0, 1) := by decide +kernel
theorem dX3_learnAllBut_61 : decode cX3_learnAllBut 61 = .ok (.istore_n 3, 1) := by decide +kernel
theorem dX3_learnAllBut_62 : decode cX3_learnAllBut 62 = .ok (.iload_n 3, 1) := by decide +kernel
theorem dX3_learnAllBut_63 : decode cX3_learnAllBut 63 = .ok (.aload_n 1, 1) := by decide +kernel
theorem dX3_learnAllBut_64 : decode cX3_learnAllBut 64 = .ok (.getfield 58, 3) := by decide +kernel
theorem dX3_learnAllBut_67 : decode cX3_learnAllBut 67 = .ok (.if_icmp .ge 45, 3) := by decide +kernel
theorem dX3_learnAllBut_70 : decode cX3_learnAllBut 70 = .ok (.iload_n 3, 1) := by decide +kernel
theorem dX3_learnAllBut_71 : decode cX3_learnAllBut 71 = .ok (.iload_n 2, 1) := by decide +kernel
theorem dX3_learnAllBut_72 : decode cX3_learnAllBut 72 = .ok (.if_icmp .eq 34, 3) := by decide +kernel
theorem dX3_learnAllBut_75 : decode cX3_learnAllBut 75 = .ok (.aload_n 0, 1) := by decide +kernel
theorem dX3_learnAllBut_76 : decode cX3_learnAllBut 76 = .ok (.getfield 34, 3) := by decide +kernel
theorem dX3_learnAllBut_79 : decode cX3_learnAllBut 79 = .ok (.iload_n 3, 1) := by decide +kernel
theorem dX3_learnAllBut_80 : decode cX3_learnAllBut 80 = .ok (.aload_n 0, 1) := by decide +kernel
theorem dX3_learnAllBut_81 : decode cX3_learnAllBut 81 = .ok (.aload_n 1, 1) := by decide +kernel
theorem dX3_learnAllBut_82 : decode cX3_learnAllBut 82 = .ok (.aload_n 1, 1) := by decide +kernel
theorem dX3_learnAllBut_83 : decode cX3_learnAllBut 83 = .ok (.getfield 61, 3) := by decide +kernel
theorem dX3_learnAllBut_86 : decode cX3_learnAllBut 86 = .ok (.iload_n 3, 1) := by decide +kernel
theorem dX3_learnAllBut_87 : decode cX3_learnAllBut 87 = .ok (.iaload, 1) := by decide +kernel
theorem dX3_learnAllBut_88 : decode cX3_learnAllBut 88 = .ok (.aload_n 1, 1) := by decide +kernel
theorem dX3_learnAllBut_89 : decode cX3_learnAllBut 89 = .ok (.getfield 64, 3) := by decide +kernel
theorem dX3_learnAllBut_92 : decode cX3_learnAllBut 92 = .ok (.iload_n 3, 1) := by decide +kernel
theorem dX3_learnAllBut_93 : decode cX3_learnAllBut 93 = .ok (.iaload, 1) := by decide +kernel
theorem dX3_learnAllBut_94 : decode cX3_learnAllBut 94 = .ok (.invokevirtual 67, 3) := by decide +kernel
theorem dX3_learnAllBut_97 : decode cX3_learnAllBut 97 = .ok (.ifCond .eq 7, 3) := by decide +kernel
theorem dX3_learnAllBut_100 : decode cX3_learnAllBut 100 = .ok (.iconst 0, 1) := by decide +kernel
theorem dX3_learnAllBut_101 : decode cX3_learnAllBut 101 = .ok (.goto 4, 3) := by decide +kernel
theorem dX3_learnAllBut_104 : decode cX3_learnAllBut 104 = .ok (.iconst 1, 1) := by decide +kernel
theorem dX3_learnAllBut_105 : decode cX3_learnAllBut 105 = .ok (.iastore, 1) := by decide +kernel
theorem dX3_learnAllBut_106 : decode cX3_learnAllBut 106 = .ok (.iinc 3 1, 3) := by decide +kernel
theorem dX3_learnAllBut_109 : decode cX3_learnAllBut 109 = .ok (.goto (-47), 3) := by decide +kernel
theorem dX3_learnAllBut_112 : decode cX3_learnAllBut 112 = .ok (.return_, 1) := by decide +kernel
theorem dX3_learn_0 : decode cX3_learn 0 = .ok (.aload_n 0, 1) := by decide +kernel
theorem dX3_learn_1 : decode cX3_learn 1 = .ok (.aload_n 1, 1) := by decide +kernel
theorem dX3_learn_2 : decode cX3_learn 2 = .ok (.iload_n 2, 1) := by decide +kernel
theorem dX3_learn_3 : decode cX3_learn 3 = .ok (.invokevirtual 71, 3) := by decide +kernel
theorem dX3_learn_6 : decode cX3_learn 6 = .ok (.istore 4, 2) := by decide +kernel
theorem dX3_learn_8 : decode cX3_learn 8 = .ok (.iload 4, 2) := by decide +kernel
theorem dX3_learn_10 : decode cX3_learn 10 = .ok (.iload_n 3, 1) := by decide +kernel
theorem dX3_learn_11 : decode cX3_learn 11 = .ok (.imul, 1) := by decide +kernel
theorem dX3_learn_12 : decode cX3_learn 12 = .ok (.bipush 12, 2) := by decide +kernel
theorem dX3_learn_14 : decode cX3_learn 14 = .ok (.if_icmp .lt 5, 3) := by decide +kernel
theorem dX3_learn_17 : decode cX3_learn 17 = .ok (.iconst 0, 1) := by decide +kernel
theorem dX3_learn_18 : decode cX3_learn 18 = .ok (.ireturn, 1) := by decide +kernel
theorem dX3_learn_19 : decode cX3_learn 19 = .ok (.aload_n 0, 1) := by decide +kernel
theorem dX3_learn_20 : decode cX3_learn 20 = .ok (.getfield 24, 3) := by decide +kernel
theorem dX3_learn_23 : decode cX3_learn 23 = .ok (.iload_n 2, 1) := by decide +kernel
theorem dX3_learn_24 : decode cX3_learn 24 = .ok (.iaload, 1) := by decide +kernel
theorem dX3_learn_25 : decode cX3_learn 25 = .ok (.ifCond .ne 38, 3) := by decide +kernel
theorem dX3_learn_28 : decode cX3_learn 28 = .ok (.aload_n 0, 1) := by decide +kernel
theorem dX3_learn_29 : decode cX3_learn 29 = .ok (.getfield 18, 3) := by decide +kernel
theorem dX3_learn_32 : decode cX3_learn 32 = .ok (.iload_n 2, 1) := by decide +kernel
theorem dX3_learn_33 : decode cX3_learn 33 = .ok (.aload_n 1, 1) := by decide +kernel
theorem dX3_learn_34 : decode cX3_learn 34 = .ok (.getfield 75, 3) := by decide +kernel
theorem dX3_learn_37 : decode cX3_learn 37 = .ok (.iconst 0, 1) := by decide +kernel
theorem dX3_learn_38 : decode cX3_learn 38 = .ok (.iaload, 1) := by decide +kernel
theorem dX3_learn_39 : decode cX3_learn 39 = .ok (.iastore, 1) := by decide +kernel
theorem dX3_learn_40 : decode cX3_learn 40 = .ok (.aload_n 0, 1) := by decide +kernel
theorem dX3_learn_41 : decode cX3_learn 41 = .ok (.getfield 27, 3) := by decide +kernel
theorem dX3_learn_44 : decode cX3_learn 44 = .ok (.aload_n 0, 1) := by decide +kernel
theorem dX3_learn_45 : decode cX3_learn 45 = .ok (.getfield 30, 3) := by decide +kernel
theorem dX3_learn_48 : decode cX3_learn 48 = .ok (.iload_n 2, 1) := by decide +kernel
theorem dX3_learn_49 : decode cX3_learn 49 = .ok (.iastore, 1) := by decide +kernel
theorem dX3_learn_50 : decode cX3_learn 50 = .ok (.aload_n 0, 1) := by decide +kernel
theorem dX3_learn_51 : decode cX3_learn 51 = .ok (.dup, 1) := by decide +kernel
theorem dX3_learn_52 : decode cX3_learn 52 = .ok (.getfield 30, 3) := by decide +kernel
theorem dX3_learn_55 : decode cX3_learn 55 = .ok (.iconst 1, 1) := by decide +kernel
theorem dX3_learn_56 : decode cX3_learn 56 = .ok (.iadd, 1) := by decide +kernel
theorem dX3_learn_57 : decode cX3_learn 57 = .ok (.putfield 30, 3) := by decide +kernel
theorem dX3_learn_60 : decode cX3_learn 60 = .ok (.goto 31, 3) := by decide +kernel
theorem dX3_learn_63 : decode cX3_learn 63 = .ok (.aload_n 0, 1) := by decide +kernel
theorem dX3_learn_64 : decode cX3_learn 64 = .ok (.getfield 21, 3) := by decide +kernel
theorem dX3_learn_67 : decode cX3_learn 67 = .ok (.iload_n 2, 1) := by decide +kernel
theorem dX3_learn_68 : decode cX3_learn 68 = .ok (.iaload, 1) := by decide +kernel
theorem dX3_learn_69 : decode cX3_learn 69 = .ok (.iload_n 3, 1) := by decide +kernel
theorem dX3_learn_70 : decode cX3_learn 70 = .ok (.if_icmp .eq 21, 3) := by decide +kernel
theorem dX3_learn_73 : decode cX3_learn 73 = .ok (.aload_n 0, 1) := by decide +kernel
theorem dX3_learn_74 : decode cX3_learn 74 = .ok (.getfield 18, 3) := by decide +kernel
theorem dX3_learn_77 : decode cX3_learn 77 = .ok (.iload_n 2, 1) := by decide +kernel
theorem dX3_learn_78 : decode cX3_learn 78 = .ok (.iconst 1, 1) := by decide +kernel
theorem dX3_learn_79 : decode cX3_learn 79 = .ok (.aload_n 0, 1) := by decide +kernel
theorem dX3_learn_80 : decode cX3_learn 80 = .ok (.getfield 18, 3) := by decide +kernel
theorem dX3_learn_83 : decode cX3_learn 83 = .ok (.iload_n 2, 1) := by decide +kernel
theorem dX3_learn_84 : decode cX3_learn 84 = .ok (.iaload, 1) := by decide +kernel
theorem dX3_learn_85 : decode cX3_learn 85 = .ok (.iconst 2, 1) := by decide +kernel
theorem dX3_learn_86 : decode cX3_learn 86 = .ok (.idiv, 1) := by decide +kernel
theorem dX3_learn_87 : decode cX3_learn 87 = .ok (.invokestatic 78, 3) := by decide +kernel
theorem dX3_learn_90 : decode cX3_learn 90 = .ok (.iastore, 1) := by decide +kernel
theorem dX3_learn_91 : decode cX3_learn 91 = .ok (.aload_n 0, 1) := by decide +kernel
theorem dX3_learn_92 : decode cX3_learn 92 = .ok (.getfield 21, 3) := by decide +kernel
theorem dX3_learn_95 : decode cX3_learn 95 = .ok (.iload_n 2, 1) := by decide +kernel
theorem dX3_learn_96 : decode cX3_learn 96 = .ok (.iload_n 3, 1) := by decide +kernel
theorem dX3_learn_97 : decode cX3_learn 97 = .ok (.iastore, 1) := by decide +kernel
theorem dX3_learn_98 : decode cX3_learn 98 = .ok (.aload_n 0, 1) := by decide +kernel
theorem dX3_learn_99 : decode cX3_learn 99 = .ok (.getfield 24, 3) := by decide +kernel
theorem dX3_learn_102 : decode cX3_learn 102 = .ok (.iload_n 2, 1) := by decide +kernel
theorem dX3_learn_103 : decode cX3_learn 103 = .ok (.dup2, 1) := by decide +kernel
theorem dX3_learn_104 : decode cX3_learn 104 = .ok (.iaload, 1) := by decide +kernel
theorem dX3_learn_105 : decode cX3_learn 105 = .ok (.iconst 1, 1) := by decide +kernel
theorem dX3_learn_106 : decode cX3_learn 106 = .ok (.iadd, 1) := by decide +kernel
theorem dX3_learn_107 : decode cX3_learn 107 = .ok (.iastore, 1) := by decide +kernel
theorem dX3_learn_108 : decode cX3_learn 108 = .ok (.iload 4, 2) := by decide +kernel
theorem dX3_learn_110 : decode cX3_learn 110 = .ok (.iload_n 3, 1) := by decide +kernel
theorem dX3_learn_111 : decode cX3_learn 111 = .ok (.aload_n 0, 1) := by decide +kernel
theorem dX3_learn_112 : decode cX3_learn 112 = .ok (.getfield 18, 3) := by decide +kernel
theorem dX3_learn_115 : decode cX3_learn 115 = .ok (.iload_n 2, 1) := by decide +kernel
theorem dX3_learn_116 : decode cX3_learn 116 = .ok (.iaload, 1) := by decide +kernel
theorem dX3_learn_117 : decode cX3_learn 117 = .ok (.imul, 1) := by decide +kernel
theorem dX3_learn_118 : decode cX3_learn 118 = .ok (.iadd, 1) := by decide +kernel
theorem dX3_learn_119 : decode cX3_learn 119 = .ok (.istore 5, 2) := by decide +kernel
theorem dX3_learn_121 : decode cX3_learn 121 = .ok (.bipush (-12), 2) := by decide +kernel
theorem dX3_learn_123 : decode cX3_learn 123 = .ok (.bipush 12, 2) := by decide +kernel
theorem dX3_learn_125 : decode cX3_learn 125 = .ok (.iload 5, 2) := by decide +kernel
theorem dX3_learn_127 : decode cX3_learn 127 = .ok (.invokestatic 84, 3) := by decide +kernel
theorem dX3_learn_130 : decode cX3_learn 130 = .ok (.invokestatic 78, 3) := by decide +kernel
theorem dX3_learn_133 : decode cX3_learn 133 = .ok (.istore 5, 2) := by decide +kernel
theorem dX3_learn_135 : decode cX3_learn 135 = .ok (.aload_n 0, 1) := by decide +kernel
theorem dX3_learn_136 : decode cX3_learn 136 = .ok (.getfield 15, 3) := by decide +kernel
theorem dX3_learn_139 : decode cX3_learn 139 = .ok (.iload_n 2, 1) := by decide +kernel
theorem dX3_learn_140 : decode cX3_learn 140 = .ok (.dup2, 1) := by decide +kernel
theorem dX3_learn_141 : decode cX3_learn 141 = .ok (.iaload, 1) := by decide +kernel
theorem dX3_learn_142 : decode cX3_learn 142 = .ok (.iload 5, 2) := by decide +kernel
theorem dX3_learn_144 : decode cX3_learn 144 = .ok (.iload 4, 2) := by decide +kernel
theorem dX3_learn_146 : decode cX3_learn 146 = .ok (.isub, 1) := by decide +kernel
theorem dX3_learn_147 : decode cX3_learn 147 = .ok (.iadd, 1) := by decide +kernel
theorem dX3_learn_148 : decode cX3_learn 148 = .ok (.iastore, 1) := by decide +kernel
theorem dX3_learn_149 : decode cX3_learn 149 = .ok (.aload_n 1, 1) := by decide +kernel
theorem dX3_learn_150 : decode cX3_learn 150 = .ok (.iload_n 2, 1) := by decide +kernel
theorem dX3_learn_151 : decode cX3_learn 151 = .ok (.invokevirtual 43, 3) := by decide +kernel
theorem dX3_learn_154 : decode cX3_learn 154 = .ok (.istore 6, 2) := by decide +kernel
theorem dX3_learn_156 : decode cX3_learn 156 = .ok (.aload_n 0, 1) := by decide +kernel
theorem dX3_learn_157 : decode cX3_learn 157 = .ok (.getfield 9, 3) := by decide +kernel
theorem dX3_learn_160 : decode cX3_learn 160 = .ok (.iload 6, 2) := by decide +kernel
theorem dX3_learn_162 : decode cX3_learn 162 = .ok (.iaload, 1) := by decide +kernel
theorem dX3_learn_163 : decode cX3_learn 163 = .ok (.iload_n 3, 1) := by decide +kernel
theorem dX3_learn_164 : decode cX3_learn 164 = .ok (.imul, 1) := by decide +kernel
theorem dX3_learn_165 : decode cX3_learn 165 = .ok (.bipush 12, 2) := by decide +kernel
theorem dX3_learn_167 : decode cX3_learn 167 = .ok (.if_icmp .ge 7, 3) := by decide +kernel
theorem dX3_learn_170 : decode cX3_learn 170 = .ok (.iconst 1, 1) := by decide +kernel
theorem dX3_learn_171 : decode cX3_learn 171 = .ok (.goto 4, 3) := by decide +kernel
theorem dX3_learn_174 : decode cX3_learn 174 = .ok (.iconst 0, 1) := by decide +kernel
theorem dX3_learn_175 : decode cX3_learn 175 = .ok (.istore 7, 2) := by decide +kernel
theorem dX3_learn_177 : decode cX3_learn 177 = .ok (.iload 7, 2) := by decide +kernel
theorem dX3_learn_179 : decode cX3_learn 179 = .ok (.ifCond .eq 28, 3) := by decide +kernel
theorem dX3_learn_182 : decode cX3_learn 182 = .ok (.aload_n 0, 1) := by decide +kernel
theorem dX3_learn_183 : decode cX3_learn 183 = .ok (.aload_n 1, 1) := by decide +kernel
theorem dX3_learn_184 : decode cX3_learn 184 = .ok (.iload 6, 2) := by decide +kernel
theorem dX3_learn_186 : decode cX3_learn 186 = .ok (.iload_n 3, 1) := by decide +kernel
theorem dX3_learn_187 : decode cX3_learn 187 = .ok (.invokevirtual 87, 3) := by decide +kernel
theorem dX3_learn_190 : decode cX3_learn 190 = .ok (.aload_n 1, 1) := by decide +kernel
theorem dX3_learn_191 : decode cX3_learn 191 = .ok (.getfield 75, 3) := by decide +kernel
theorem dX3_learn_194 : decode cX3_learn 194 = .ok (.iconst 1, 1) := by decide +kernel
theorem dX3_learn_195 : decode cX3_learn 195 = .ok (.iaload, 1) := by decide +kernel
theorem dX3_learn_196 : decode cX3_learn 196 = .ok (.if_icmp .lt 11, 3) := by decide +kernel
theorem dX3_learn_199 : decode cX3_learn 199 = .ok (.aload_n 0, 1) := by decide +kernel
theorem dX3_learn_200 : decode cX3_learn 200 = .ok (.aload_n 1, 1) := by decide +kernel
theorem dX3_learn_201 : decode cX3_learn 201 = .ok (.iload 6, 2) := by decide +kernel
theorem dX3_learn_203 : decode cX3_learn 203 = .ok (.iload_n 3, 1) := by decide +kernel
theorem dX3_learn_204 : decode cX3_learn 204 = .ok (.invokevirtual 91, 3) := by decide +kernel
theorem dX3_learn_207 : decode cX3_learn 207 = .ok (.iconst 1, 1) := by decide +kernel
theorem dX3_learn_208 : decode cX3_learn 208 = .ok (.ireturn, 1) := by decide +kernel
theorem dX3_moveShapes_0 : decode cX3_moveShapes 0 = .ok (.aload_n 0, 1) := by decide +kernel
theorem dX3_moveShapes_1 : decode cX3_moveShapes 1 = .ok (.getfield 9, 3) := by decide +kernel
theorem dX3_moveShapes_4 : decode cX3_moveShapes 4 = .ok (.iload_n 2, 1) := by decide +kernel
theorem dX3_moveShapes_5 : decode cX3_moveShapes 5 = .ok (.dup2, 1) := by decide +kernel
theorem dX3_moveShapes_6 : decode cX3_moveShapes 6 = .ok (.iaload, 1) := by decide +kernel
theorem dX3_moveShapes_7 : decode cX3_moveShapes 7 = .ok (.iload_n 3, 1) := by decide +kernel
theorem dX3_moveShapes_8 : decode cX3_moveShapes 8 = .ok (.iadd, 1) := by decide +kernel
theorem dX3_moveShapes_9 : decode cX3_moveShapes 9 = .ok (.iastore, 1) := by decide +kernel
theorem dX3_moveShapes_10 : decode cX3_moveShapes 10 = .ok (.iconst 0, 1) := by decide +kernel
theorem dX3_moveShapes_11 : decode cX3_moveShapes 11 = .ok (.istore 4, 2) := by decide +kernel
theorem dX3_moveShapes_13 : decode cX3_moveShapes 13 = .ok (.iload 4, 2) := by decide +kernel
theorem dX3_moveShapes_15 : decode cX3_moveShapes 15 = .ok (.aload_n 0, 1) := by decide +kernel
theorem dX3_moveShapes_16 : decode cX3_moveShapes 16 = .ok (.getfield 30, 3) := by decide +kernel
theorem dX3_moveShapes_19 : decode cX3_moveShapes 19 = .ok (.if_icmp .ge 40, 3) := by decide +kernel
theorem dX3_moveShapes_22 : decode cX3_moveShapes 22 = .ok (.aload_n 1, 1) := by decide +kernel
theorem dX3_moveShapes_23 : decode cX3_moveShapes 23 = .ok (.aload_n 0, 1) := by decide +kernel
theorem dX3_moveShapes_24 : decode cX3_moveShapes 24 = .ok (.getfield 27, 3) := by decide +kernel
theorem dX3_moveShapes_27 : decode cX3_moveShapes 27 = .ok (.iload 4, 2) := by decide +kernel
theorem dX3_moveShapes_29 : decode cX3_moveShapes 29 = .ok (.iaload, 1) := by decide +kernel
theorem dX3_moveShapes_30 : decode cX3_moveShapes 30 = .ok (.invokevirtual 43, 3) := by decide +kernel
theorem dX3_moveShapes_33 : decode cX3_moveShapes 33 = .ok (.iload_n 2, 1) := by decide +kernel
theorem dX3_moveShapes_34 : decode cX3_moveShapes 34 = .ok (.if_icmp .ne 19, 3) := by decide +kernel
theorem dX3_moveShapes_37 : decode cX3_moveShapes 37 = .ok (.aload_n 0, 1) := by decide +kernel
theorem dX3_moveShapes_38 : decode cX3_moveShapes 38 = .ok (.getfield 15, 3) := by decide +kernel
theorem dX3_moveShapes_41 : decode cX3_moveShapes 41 = .ok (.aload_n 0, 1) := by decide +kernel
theorem dX3_moveShapes_42 : decode cX3_moveShapes 42 = .ok (.getfield 27, 3) := by decide +kernel
theorem dX3_moveShapes_45 : decode cX3_moveShapes 45 = .ok (.iload 4, 2) := by decide +kernel
theorem dX3_moveShapes_47 : decode cX3_moveShapes 47 = .ok (.iaload, 1) := by decide +kernel
theorem dX3_moveShapes_48 : decode cX3_moveShapes 48 = .ok (.dup2, 1) := by decide +kernel
theorem dX3_moveShapes_49 : decode cX3_moveShapes 49 = .ok (.iaload, 1) := by decide +kernel
theorem dX3_moveShapes_50 : decode cX3_moveShapes 50 = .ok (.iload_n 3, 1) := by decide +kernel
theorem dX3_moveShapes_51 : decode cX3_moveShapes 51 = .ok (.isub, 1) := by decide +kernel
theorem dX3_moveShapes_52 : decode cX3_moveShapes 52 = .ok (.iastore, 1) := by decide +kernel
theorem dX3_moveShapes_53 : decode cX3_moveShapes 53 = .ok (.iinc 4 1, 3) := by decide +kernel
theorem dX3_moveShapes_56 : decode cX3_moveShapes 56 = .ok (.goto (-43), 3) := by decide +kernel
theorem dX3_moveShapes_59 : decode cX3_moveShapes 59 = .ok (.return_, 1) := by decide +kernel
theorem dX3_pairsThatAgree_0 : decode cX3_pairsThatAgree 0 = .ok (.iconst 0, 1) := by decide +kernel
theorem dX3_pairsThatAgree_1 : decode cX3_pairsThatAgree 1 = .ok (.istore 4, 2) := by decide +kernel
theorem dX3_pairsThatAgree_3 : decode cX3_pairsThatAgree 3 = .ok (.iconst 0, 1) := by decide +kernel
theorem dX3_pairsThatAgree_4 : decode cX3_pairsThatAgree 4 = .ok (.istore 5, 2) := by decide +kernel
theorem dX3_pairsThatAgree_6 : decode cX3_pairsThatAgree 6 = .ok (.iload 5, 2) := by decide +kernel
theorem dX3_pairsThatAgree_8 : decode cX3_pairsThatAgree 8 = .ok (.aload_n 0, 1) := by decide +kernel
theorem dX3_pairsThatAgree_9 : decode cX3_pairsThatAgree 9 = .ok (.getfield 30, 3) := by decide +kernel
theorem dX3_pairsThatAgree_12 : decode cX3_pairsThatAgree 12 = .ok (.if_icmp .ge 43, 3) := by decide +kernel
theorem dX3_pairsThatAgree_15 : decode cX3_pairsThatAgree 15 = .ok (.aload_n 0, 1) := by decide +kernel
theorem dX3_pairsThatAgree_16 : decode cX3_pairsThatAgree 16 = .ok (.getfield 27, 3) := by decide +kernel
theorem dX3_pairsThatAgree_19 : decode cX3_pairsThatAgree 19 = .ok (.iload 5, 2) := by decide +kernel
theorem dX3_pairsThatAgree_21 : decode cX3_pairsThatAgree 21 = .ok (.iaload, 1) := by decide +kernel
theorem dX3_pairsThatAgree_22 : decode cX3_pairsThatAgree 22 = .ok (.istore 6, 2) := by decide +kernel
theorem dX3_pairsThatAgree_24 : decode cX3_pairsThatAgree 24 = .ok (.aload_n 0, 1) := by decide +kernel
theorem dX3_pairsThatAgree_25 : decode cX3_pairsThatAgree 25 = .ok (.getfield 15, 3) := by decide +kernel
theorem dX3_pairsThatAgree_28 : decode cX3_pairsThatAgree 28 = .ok (.iload 6, 2) := by decide +kernel
theorem dX3_pairsThatAgree_30 : decode cX3_pairsThatAgree 30 = .ok (.iaload, 1) := by decide +kernel
theorem dX3_pairsThatAgree_31 : decode cX3_pairsThatAgree 31 = .ok (.iload_n 3, 1) := by decide +kernel
theorem dX3_pairsThatAgree_32 : decode cX3_pairsThatAgree 32 = .ok (.imul, 1) := by decide +kernel
theorem dX3_pairsThatAgree_33 : decode cX3_pairsThatAgree 33 = .ok (.ifCond .le 16, 3) := by decide +kernel
theorem dX3_pairsThatAgree_36 : decode cX3_pairsThatAgree 36 = .ok (.aload_n 1, 1) := by decide +kernel
theorem dX3_pairsThatAgree_37 : decode cX3_pairsThatAgree 37 = .ok (.iload 6, 2) := by decide +kernel
theorem dX3_pairsThatAgree_39 : decode cX3_pairsThatAgree 39 = .ok (.invokevirtual 43, 3) := by decide +kernel
theorem dX3_pairsThatAgree_42 : decode cX3_pairsThatAgree 42 = .ok (.iload_n 2, 1) := by decide +kernel
theorem dX3_pairsThatAgree_43 : decode cX3_pairsThatAgree 43 = .ok (.if_icmp .ne 6, 3) := by decide +kernel
theorem dX3_pairsThatAgree_46 : decode cX3_pairsThatAgree 46 = .ok (.iinc 4 1, 3) := by decide +kernel
theorem dX3_pairsThatAgree_49 : decode cX3_pairsThatAgree 49 = .ok (.iinc 5 1, 3) := by decide +kernel
theorem dX3_pairsThatAgree_52 : decode cX3_pairsThatAgree 52 = .ok (.goto (-46), 3) := by decide +kernel
theorem dX3_pairsThatAgree_55 : decode cX3_pairsThatAgree 55 = .ok (.iload 4, 2) := by decide +kernel
theorem dX3_pairsThatAgree_57 : decode cX3_pairsThatAgree 57 = .ok (.ireturn, 1) := by decide +kernel
theorem dX4_init_0 : decode cX4_init 0 = .ok (.aload_n 0, 1) := by decide +kernel
theorem dX4_init_1 : decode cX4_init 1 = .ok (.invokespecial 1, 3) := by decide +kernel
theorem dX4_init_4 : decode cX4_init 4 = .ok (.aload_n 0, 1) := by decide +kernel
theorem dX4_init_5 : decode cX4_init 5 = .ok (.new 7, 3) := by decide +kernel
theorem dX4_init_8 : decode cX4_init 8 = .ok (.dup, 1) := by decide +kernel
theorem dX4_init_9 : decode cX4_init 9 = .ok (.invokespecial 9, 3) := by decide +kernel
theorem dX4_init_12 : decode cX4_init 12 = .ok (.putfield 10, 3) := by decide +kernel
theorem dX4_init_15 : decode cX4_init 15 = .ok (.aload_n 0, 1) := by decide +kernel
theorem dX4_init_16 : decode cX4_init 16 = .ok (.bipush 6, 2) := by decide +kernel
theorem dX4_init_18 : decode cX4_init 18 = .ok (.anewarray 7, 3) := by decide +kernel
theorem dX4_init_21 : decode cX4_init 21 = .ok (.putfield 16, 3) := by decide +kernel
theorem dX4_init_24 : decode cX4_init 24 = .ok (.aload_n 0, 1) := by decide +kernel
theorem dX4_init_25 : decode cX4_init 25 = .ok (.iconst 0, 1) := by decide +kernel
theorem dX4_init_26 : decode cX4_init 26 = .ok (.putfield 20, 3) := by decide +kernel
theorem dX4_init_29 : decode cX4_init 29 = .ok (.aload_n 0, 1) := by decide +kernel
theorem dX4_init_30 : decode cX4_init 30 = .ok (.iconst 2, 1) := by decide +kernel
theorem dX4_init_31 : decode cX4_init 31 = .ok (.anewarray 7, 3) := by decide +kernel
theorem dX4_init_34 : decode cX4_init 34 = .ok (.putfield 24, 3) := by decide +kernel
theorem dX4_init_37 : decode cX4_init 37 = .ok (.aload_n 0, 1) := by decide +kernel
theorem dX4_init_38 : decode cX4_init 38 = .ok (.iconst 2, 1) := by decide +kernel
theorem dX4_init_39 : decode cX4_init 39 = .ok (.newarray .boolean, 2) := by decide +kernel
theorem dX4_init_41 : decode cX4_init 41 = .ok (.putfield 27, 3) := by decide +kernel
theorem dX4_init_44 : decode cX4_init 44 = .ok (.aload_n 0, 1) := by decide +kernel
theorem dX4_init_45 : decode cX4_init 45 = .ok (.new 31, 3) := by decide +kernel
theorem dX4_init_48 : decode cX4_init 48 = .ok (.dup, 1) := by decide +kernel
theorem dX4_init_49 : decode cX4_init 49 = .ok (.invokespecial 33, 3) := by decide +kernel
theorem dX4_init_52 : decode cX4_init 52 = .ok (.putfield 34, 3) := by decide +kernel
theorem dX4_init_55 : decode cX4_init 55 = .ok (.aload_n 0, 1) := by decide +kernel
theorem dX4_init_56 : decode cX4_init 56 = .ok (.new 38, 3) := by decide +kernel
theorem dX4_init_59 : decode cX4_init 59 = .ok (.dup, 1) := by decide +kernel
theorem dX4_init_60 : decode cX4_init 60 = .ok (.invokespecial 40, 3) := by decide +kernel
theorem dX4_init_63 : decode cX4_init 63 = .ok (.putfield 41, 3) := by decide +kernel
theorem dX4_init_66 : decode cX4_init 66 = .ok (.aload_n 0, 1) := by decide +kernel
theorem dX4_init_67 : decode cX4_init 67 = .ok (.bipush 40, 2) := by decide +kernel
theorem dX4_init_69 : decode cX4_init 69 = .ok (.newarray .int, 2) := by decide +kernel
theorem dX4_init_71 : decode cX4_init 71 = .ok (.putfield 45, 3) := by decide +kernel
theorem dX4_init_74 : decode cX4_init 74 = .ok (.aload_n 0, 1) := by decide +kernel
theorem dX4_init_75 : decode cX4_init 75 = .ok (.new 49, 3) := by decide +kernel
theorem dX4_init_78 : decode cX4_init 78 = .ok (.dup, 1) := by decide +kernel
theorem dX4_init_79 : decode cX4_init 79 = .ok (.invokespecial 51, 3) := by decide +kernel
theorem dX4_init_82 : decode cX4_init 82 = .ok (.putfield 52, 3) := by decide +kernel
theorem dX4_init_85 : decode cX4_init 85 = .ok (.iconst 0, 1) := by decide +kernel
theorem dX4_init_86 : decode cX4_init 86 = .ok (.istore_n 1, 1) := by decide +kernel
theorem dX4_init_87 : decode cX4_init 87 = .ok (.iload_n 1, 1) := by decide +kernel
theorem dX4_init_88 : decode cX4_init 88 = .ok (.bipush 6, 2) := by decide +kernel
theorem dX4_init_90 : decode cX4_init 90 = .ok (.if_icmp .ge 22, 3) := by decide +kernel
theorem dX4_init_93 : decode cX4_init 93 = .ok (.aload_n 0, 1) := by decide +kernel
theorem dX4_init_94 : decode cX4_init 94 = .ok (.getfield 16, 3) := by decide +kernel
theorem dX4_init_97 : decode cX4_init 97 = .ok (.iload_n 1, 1) := by decide +kernel
theorem dX4_init_98 : decode cX4_init 98 = .ok (.new 7, 3) := by decide +kernel
theorem dX4_init_101 : decode cX4_init 101 = .ok (.dup, 1) := by decide +kernel
theorem dX4_init_102 : decode cX4_init 102 = .ok (.invokespecial 9, 3) := by decide +kernel
theorem dX4_init_105 : decode cX4_init 105 = .ok (.aastore, 1) := by decide +kernel
theorem dX4_init_106 : decode cX4_init 106 = .ok (.iinc 1 1, 3) := by decide +kernel
theorem dX4_init_109 : decode cX4_init 109 = .ok (.goto (-22), 3) := by decide +kernel
theorem dX4_init_112 : decode cX4_init 112 = .ok (.iconst 0, 1) := by decide +kernel
theorem dX4_init_113 : decode cX4_init 113 = .ok (.istore_n 1, 1) := by decide +kernel
theorem dX4_init_114 : decode cX4_init 114 = .ok (.iload_n 1, 1) := by decide +kernel
theorem dX4_init_115 : decode cX4_init 115 = .ok (.iconst 2, 1) := by decide +kernel
theorem dX4_init_116 : decode cX4_init 116 = .ok (.if_icmp .ge 22, 3) := by decide +kernel
theorem dX4_init_119 : decode cX4_init 119 = .ok (.aload_n 0, 1) := by decide +kernel
theorem dX4_init_120 : decode cX4_init 120 = .ok (.getfield 24, 3) := by decide +kernel
theorem dX4_init_123 : decode cX4_init 123 = .ok (.iload_n 1, 1) := by decide +kernel
theorem dX4_init_124 : decode cX4_init 124 = .ok (.new 7, 3) := by decide +kernel
theorem dX4_init_127 : decode cX4_init 127 = .ok (.dup, 1) := by decide +kernel
theorem dX4_init_128 : decode cX4_init 128 = .ok (.invokespecial 9, 3) := by decide +kernel
theorem dX4_init_131 : decode cX4_init 131 = .ok (.aastore, 1) := by decide +kernel
theorem dX4_init_132 : decode cX4_init 132 = .ok (.iinc 1 1, 3) := by decide +kernel
theorem dX4_init_135 : decode cX4_init 135 = .ok (.goto (-21), 3) := by decide +kernel
theorem dX4_init_138 : decode cX4_init 138 = .ok (.return_, 1) := by decide +kernel
theorem dX4_width_0 : decode cX4_width 0 = .ok (.iload_n 1, 1) := by decide +kernel
theorem dX4_width_1 : decode cX4_width 1 = .ok (.invokestatic 56, 3) := by decide +kernel
theorem dX4_width_4 : decode cX4_width 4 = .ok (.iload_n 2, 1) := by decide +kernel
theorem dX4_width_5 : decode cX4_width 5 = .ok (.bipush 13, 2) := by decide +kernel
theorem dX4_width_7 : decode cX4_width 7 = .ok (.bipush 30, 2) := by decide +kernel
theorem dX4_width_9 : decode cX4_width 9 = .ok (.invokestatic 60, 3) := by decide +kernel
theorem dX4_width_12 : decode cX4_width 12 = .ok (.aload_n 0, 1) := by decide +kernel
theorem dX4_width_13 : decode cX4_width 13 = .ok (.invokevirtual 64, 3) := by decide +kernel
theorem dX4_width_16 : decode cX4_width 16 = .ok (.aload_n 0, 1) := by decide +kernel
theorem dX4_width_17 : decode cX4_width 17 = .ok (.getfield 10, 3) := by decide +kernel
theorem dX4_width_20 : decode cX4_width 20 = .ok (.getfield 67, 3) := by decide +kernel
theorem dX4_width_23 : decode cX4_width 23 = .ok (.iload_n 1, 1) := by decide +kernel
theorem dX4_width_24 : decode cX4_width 24 = .ok (.iaload, 1) := by decide +kernel
theorem dX4_width_25 : decode cX4_width 25 = .ok (.istore_n 3, 1) := by decide +kernel
theorem dX4_width_26 : decode cX4_width 26 = .ok (.aload_n 0, 1) := by decide +kernel
theorem dX4_width_27 : decode cX4_width 27 = .ok (.getfield 10, 3) := by decide +kernel
theorem dX4_width_30 : decode cX4_width 30 = .ok (.getfield 67, 3) := by decide +kernel
theorem dX4_width_33 : decode cX4_width 33 = .ok (.iload_n 1, 1) := by decide +kernel
theorem dX4_width_34 : decode cX4_width 34 = .ok (.iload_n 2, 1) := by decide +kernel
theorem dX4_width_35 : decode cX4_width 35 = .ok (.iastore, 1) := by decide +kernel
theorem dX4_width_36 : decode cX4_width 36 = .ok (.iload_n 3, 1) := by decide +kernel
theorem dX4_width_37 : decode cX4_width 37 = .ok (.ireturn, 1) := by decide +kernel
theorem dX4_shape_0 : decode cX4_shape 0 = .ok (.iload_n 1, 1) := by decide +kernel
theorem dX4_shape_1 : decode cX4_shape 1 = .ok (.invokestatic 56, 3) := by decide +kernel
theorem dX4_shape_4 : decode cX4_shape 4 = .ok (.iload_n 2, 1) := by decide +kernel
theorem dX4_shape_5 : decode cX4_shape 5 = .ok (.iconst 0, 1) := by decide +kernel
theorem dX4_shape_6 : decode cX4_shape 6 = .ok (.iconst 3, 1) := by decide +kernel
theorem dX4_shape_7 : decode cX4_shape 7 = .ok (.invokestatic 60, 3) := by decide +kernel
theorem dX4_shape_10 : decode cX4_shape 10 = .ok (.iload_n 3, 1) := by decide +kernel
theorem dX4_shape_11 : decode cX4_shape 11 = .ok (.iconst 0, 1) := by decide +kernel
theorem dX4_shape_12 : decode cX4_shape 12 = .ok (.iconst 3, 1) := by decide +kernel
theorem dX4_shape_13 : decode cX4_shape 13 = .ok (.invokestatic 60, 3) := by decide +kernel
theorem dX4_shape_16 : decode cX4_shape 16 = .ok (.aload_n 0, 1) := by decide +kernel
theorem dX4_shape_17 : decode cX4_shape 17 = .ok (.invokevirtual 64, 3) := by decide +kernel
theorem dX4_shape_20 : decode cX4_shape 20 = .ok (.iconst 4, 1) := by decide +kernel
theorem dX4_shape_21 : decode cX4_shape 21 = .ok (.aload_n 0, 1) := by decide +kernel
theorem dX4_shape_22 : decode cX4_shape 22 = .ok (.getfield 10, 3) := by decide +kernel
theorem dX4_shape_25 : decode cX4_shape 25 = .ok (.getfield 70, 3) := by decide +kernel
theorem dX4_shape_28 : decode cX4_shape 28 = .ok (.iload_n 1, 1) := by decide +kernel
theorem dX4_shape_29 : decode cX4_shape 29 = .ok (.iaload, 1) := by decide +kernel
theorem dX4_shape_30 : decode cX4_shape 30 = .ok (.imul, 1) := by decide +kernel
theorem dX4_shape_31 : decode cX4_shape 31 = .ok (.aload_n 0, 1) := by decide +kernel
theorem dX4_shape_32 : decode cX4_shape 32 = .ok (.getfield 10, 3) := by decide +kernel
theorem dX4_shape_35 : decode cX4_shape 35 = .ok (.getfield 73, 3) := by decide +kernel
theorem dX4_shape_38 : decode cX4_shape 38 = .ok (.iload_n 1, 1) := by decide +kernel
theorem dX4_shape_39 : decode cX4_shape 39 = .ok (.iaload, 1) := by decide +kernel
theorem dX4_shape_40 : decode cX4_shape 40 = .ok (.iadd, 1) := by decide +kernel
theorem dX4_shape_41 : decode cX4_shape 41 = .ok (.istore 4, 2) := by decide +kernel
theorem dX4_shape_43 : decode cX4_shape 43 = .ok (.aload_n 0, 1) := by decide +kernel
theorem dX4_shape_44 : decode cX4_shape 44 = .ok (.getfield 10, 3) := by decide +kernel
theorem dX4_shape_47 : decode cX4_shape 47 = .ok (.getfield 70, 3) := by decide +kernel
theorem dX4_shape_50 : decode cX4_shape 50 = .ok (.iload_n 1, 1) := by decide +kernel
theorem dX4_shape_51 : decode cX4_shape 51 = .ok (.iload_n 2, 1) := by decide +kernel
theorem dX4_shape_52 : decode cX4_shape 52 = .ok (.iastore, 1) := by decide +kernel
theorem dX4_shape_53 : decode cX4_shape 53 = .ok (.aload_n 0, 1) := by decide +kernel
theorem dX4_shape_54 : decode cX4_shape 54 = .ok (.getfield 10, 3) := by decide +kernel
theorem dX4_shape_57 : decode cX4_shape 57 = .ok (.getfield 73, 3) := by decide +kernel
theorem dX4_shape_60 : decode cX4_shape 60 = .ok (.iload_n 1, 1) := by decide +kernel
theorem dX4_shape_61 : decode cX4_shape 61 = .ok (.iload_n 3, 1) := by decide +kernel
theorem dX4_shape_62 : decode cX4_shape 62 = .ok (.iastore, 1) := by decide +kernel
theorem dX4_shape_63 : decode cX4_shape 63 = .ok (.aload_n 0, 1) := by decide +kernel
theorem dX4_shape_64 : decode cX4_shape 64 = .ok (.getfield 10, 3) := by decide +kernel
theorem dX4_shape_67 : decode cX4_shape 67 = .ok (.invokevirtual 76, 3) := by decide +kernel
theorem dX4_shape_70 : decode cX4_shape 70 = .ok (.iload 4, 2) := by decide +kernel
theorem dX4_shape_72 : decode cX4_shape 72 = .ok (.ireturn, 1) := by decide +kernel
theorem dX4_base_0 : decode cX4_base 0 = .ok (.iload_n 1, 1) := by decide +kernel
theorem dX4_base_1 : decode cX4_base 1 = .ok (.iconst 4, 1) := by decide +kernel
theorem dX4_base_2 : decode cX4_base 2 = .ok (.invokestatic 79, 3) := by decide +kernel
theorem dX4_base_5 : decode cX4_base 5 = .ok (.iload_n 2, 1) := by decide +kernel
theorem dX4_base_6 : decode cX4_base 6 = .ok (.iconst 4, 1) := by decide +kernel
theorem dX4_base_7 : decode cX4_base 7 = .ok (.invokestatic 79, 3) := by decide +kernel
theorem dX4_base_10 : decode cX4_base 10 = .ok (.iload_n 3, 1) := by decide +kernel
theorem dX4_base_11 : decode cX4_base 11 = .ok (.bipush (-12), 2) := by decide +kernel
theorem dX4_base_13 : decode cX4_base 13 = .ok (.bipush 12, 2) := by decide +kernel
theorem dX4_base_15 : decode cX4_base 15 = .ok (.invokestatic 60, 3) := by decide +kernel
theorem dX4_base_18 : decode cX4_base 18 = .ok (.aload_n 0, 1) := by decide +kernel
theorem dX4_base_19 : decode cX4_base 19 = .ok (.invokevirtual 64, 3) := by decide +kernel
theorem dX4_base_22 : decode cX4_base 22 = .ok (.iconst 4, 1) := by decide +kernel
theorem dX4_base_23 : decode cX4_base 23 = .ok (.iload_n 1, 1) := by decide +kernel
theorem dX4_base_24 : decode cX4_base 24 = .ok (.imul, 1) := by decide +kernel
theorem dX4_base_25 : decode cX4_base 25 = .ok (.iload_n 2, 1) := by decide +kernel
theorem dX4_base_26 : decode cX4_base 26 = .ok (.iadd, 1) := by decide +kernel
theorem dX4_base_27 : decode cX4_base 27 = .ok (.istore 4, 2) := by decide +kernel
theorem dX4_base_29 : decode cX4_base 29 = .ok (.aload_n 0, 1) := by decide +kernel
theorem dX4_base_30 : decode cX4_base 30 = .ok (.getfield 10, 3) := by decide +kernel
theorem dX4_base_33 : decode cX4_base 33 = .ok (.getfield 83, 3) := by decide +kernel
theorem dX4_base_36 : decode cX4_base 36 = .ok (.iload 4, 2) := by decide +kernel
theorem dX4_base_38 : decode cX4_base 38 = .ok (.iaload, 1) := by decide +kernel
theorem dX4_base_39 : decode cX4_base 39 = .ok (.istore 5, 2) := by decide +kernel
theorem dX4_base_41 : decode cX4_base 41 = .ok (.aload_n 0, 1) := by decide +kernel
theorem dX4_base_42 : decode cX4_base 42 = .ok (.getfield 10, 3) := by decide +kernel
theorem dX4_base_45 : decode cX4_base 45 = .ok (.getfield 83, 3) := by decide +kernel
theorem dX4_base_48 : decode cX4_base 48 = .ok (.iload 4, 2) := by decide +kernel
theorem dX4_base_50 : decode cX4_base 50 = .ok (.iload_n 3, 1) := by decide +kernel
theorem dX4_base_51 : decode cX4_base 51 = .ok (.iastore, 1) := by decide +kernel
theorem dX4_base_52 : decode cX4_base 52 = .ok (.aload_n 0, 1) := by decide +kernel
theorem dX4_base_53 : decode cX4_base 53 = .ok (.getfield 10, 3) := by decide +kernel
theorem dX4_base_56 : decode cX4_base 56 = .ok (.invokevirtual 76, 3) := by decide +kernel
theorem dX4_base_59 : decode cX4_base 59 = .ok (.iload 5, 2) := by decide +kernel
theorem dX4_base_61 : decode cX4_base 61 = .ok (.bipush 100, 2) := by decide +kernel
theorem dX4_base_63 : decode cX4_base 63 = .ok (.iadd, 1) := by decide +kernel
theorem dX4_base_64 : decode cX4_base 64 = .ok (.ireturn, 1) := by decide +kernel
theorem dX4_set_0 : decode cX4_set 0 = .ok (.iload_n 1, 1) := by decide +kernel
theorem dX4_set_1 : decode cX4_set 1 = .ok (.iconst 4, 1) := by decide +kernel
theorem dX4_set_2 : decode cX4_set 2 = .ok (.invokestatic 79, 3) := by decide +kernel
theorem dX4_set_5 : decode cX4_set 5 = .ok (.iload_n 2, 1) := by decide +kernel
theorem dX4_set_6 : decode cX4_set 6 = .ok (.getstatic 86, 3) := by decide +kernel
theorem dX4_set_9 : decode cX4_set 9 = .ok (.iload_n 1, 1) := by decide +kernel
theorem dX4_set_10 : decode cX4_set 10 = .ok (.iaload, 1) := by decide +kernel
theorem dX4_set_11 : decode cX4_set 11 = .ok (.getstatic 89, 3) := by decide +kernel
theorem dX4_set_14 : decode cX4_set 14 = .ok (.iload_n 1, 1) := by decide +kernel
theorem dX4_set_15 : decode cX4_set 15 = .ok (.iaload, 1) := by decide +kernel
theorem dX4_set_16 : decode cX4_set 16 = .ok (.invokestatic 60, 3) := by decide +kernel
theorem dX4_set_19 : decode cX4_set 19 = .ok (.aload_n 0, 1) := by decide +kernel
theorem dX4_set_20 : decode cX4_set 20 = .ok (.invokevirtual 64, 3) := by decide +kernel
theorem dX4_set_23 : decode cX4_set 23 = .ok (.aload_n 0, 1) := by decide +kernel
theorem dX4_set_24 : decode cX4_set 24 = .ok (.getfield 10, 3) := by decide +kernel
theorem dX4_set_27 : decode cX4_set 27 = .ok (.getfield 92, 3) := by decide +kernel
theorem dX4_set_30 : decode cX4_set 30 = .ok (.iload_n 1, 1) := by decide +kernel
theorem dX4_set_31 : decode cX4_set 31 = .ok (.iaload, 1) := by decide +kernel
theorem dX4_set_32 : decode cX4_set 32 = .ok (.istore_n 3, 1) := by decide +kernel
theorem dX4_set_33 : decode cX4_set 33 = .ok (.aload_n 0, 1) := by decide +kernel
theorem dX4_set_34 : decode cX4_set 34 = .ok (.getfield 10, 3) := by decide +kernel
theorem dX4_set_37 : decode cX4_set 37 = .ok (.getfield 92, 3) := by decide +kernel
theorem dX4_set_40 : decode cX4_set 40 = .ok (.iload_n 1, 1) := by decide +kernel
theorem dX4_set_41 : decode cX4_set 41 = .ok (.iload_n 2, 1) := by decide +kernel
theorem dX4_set_42 : decode cX4_set 42 = .ok (.iastore, 1) := by decide +kernel
theorem dX4_set_43 : decode cX4_set 43 = .ok (.iload_n 1, 1) := by decide +kernel
theorem dX4_set_44 : decode cX4_set 44 = .ok (.ifCond .eq 8, 3) := by decide +kernel
theorem dX4_set_47 : decode cX4_set 47 = .ok (.iload_n 1, 1) := by decide +kernel
theorem dX4_set_48 : decode cX4_set 48 = .ok (.iconst 1, 1) := by decide +kernel
theorem dX4_set_49 : decode cX4_set 49 = .ok (.if_icmp .ne 10, 3) := by decide +kernel
theorem dX4_set_52 : decode cX4_set 52 = .ok (.aload_n 0, 1) := by decide +kernel
theorem dX4_set_53 : decode cX4_set 53 = .ok (.getfield 10, 3) := by decide +kernel
theorem dX4_set_56 : decode cX4_set 56 = .ok (.invokevirtual 76, 3) := by decide +kernel
theorem dX4_set_59 : decode cX4_set 59 = .ok (.iload_n 3, 1) := by decide +kernel
theorem dX4_set_60 : decode cX4_set 60 = .ok (.ireturn, 1) := by decide +kernel
theorem dX4_circle_0 : decode cX4_circle 0 = .ok (.iload_n 1, 1) := by decide +kernel
theorem dX4_circle_1 : decode cX4_circle 1 = .ok (.invokestatic 56, 3) := by decide +kernel
theorem dX4_circle_4 : decode cX4_circle 4 = .ok (.iload_n 2, 1) := by decide +kernel
theorem dX4_circle_5 : decode cX4_circle 5 = .ok (.invokestatic 56, 3) := by decide +kernel
theorem dX4_circle_8 : decode cX4_circle 8 = .ok (.iload_n 3, 1) := by decide +kernel
theorem dX4_circle_9 : decode cX4_circle 9 = .ok (.invokestatic 95, 3) := by decide +kernel
theorem dX4_circle_12 : decode cX4_circle 12 = .ok (.aload_n 0, 1) := by decide +kernel
theorem dX4_circle_13 : decode cX4_circle 13 = .ok (.bipush 10, 2) := by decide +kernel
theorem dX4_circle_15 : decode cX4_circle 15 = .ok (.iload_n 1, 1) := by decide +kernel
theorem dX4_circle_16 : decode cX4_circle 16 = .ok (.imul, 1) := by decide +kernel
theorem dX4_circle_17 : decode cX4_circle 17 = .ok (.iload_n 2, 1) := by decide +kernel
theorem dX4_circle_18 : decode cX4_circle 18 = .ok (.iadd, 1) := by decide +kernel
theorem dX4_circle_19 : decode cX4_circle 19 = .ok (.iload_n 3, 1) := by decide +kernel
theorem dX4_circle_20 : decode cX4_circle 20 = .ok (.invokevirtual 98, 3) := by decide +kernel
theorem dX4_circle_23 : decode cX4_circle 23 = .ok (.ireturn, 1) := by decide +kernel
theorem dX4_forget_0 : decode cX4_forget 0 = .ok (.iload_n 1, 1) := by decide +kernel
theorem dX4_forget_1 : decode cX4_forget 1 = .ok (.aload_n 0, 1) := by decide +kernel
theorem dX4_forget_2 : decode cX4_forget 2 = .ok (.getfield 10, 3) := by decide +kernel
theorem dX4_forget_5 : decode cX4_forget 5 = .ok (.getfield 102, 3) := by decide +kernel
theorem dX4_forget_8 : decode cX4_forget 8 = .ok (.invokestatic 79, 3) := by decide +kernel
theorem dX4_forget_11 : decode cX4_forget 11 = .ok (.aload_n 0, 1) := by decide +kernel
theorem dX4_forget_12 : decode cX4_forget 12 = .ok (.invokevirtual 64, 3) := by decide +kernel
theorem dX4_forget_15 : decode cX4_forget 15 = .ok (.aload_n 0, 1) := by decide +kernel
theorem dX4_forget_16 : decode cX4_forget 16 = .ok (.iload_n 1, 1) := by decide +kernel
theorem dX4_forget_17 : decode cX4_forget 17 = .ok (.invokevirtual 105, 3) := by decide +kernel
theorem dX4_forget_20 : decode cX4_forget 20 = .ok (.istore_n 2, 1) := by decide +kernel
theorem dX4_forget_21 : decode cX4_forget 21 = .ok (.aload_n 0, 1) := by decide +kernel
theorem dX4_forget_22 : decode cX4_forget 22 = .ok (.getfield 10, 3) := by decide +kernel
theorem dX4_forget_25 : decode cX4_forget 25 = .ok (.iload_n 1, 1) := by decide +kernel
theorem dX4_forget_26 : decode cX4_forget 26 = .ok (.invokevirtual 109, 3) := by decide +kernel
theorem dX4_forget_29 : decode cX4_forget 29 = .ok (.aload_n 0, 1) := by decide +kernel
theorem dX4_forget_30 : decode cX4_forget 30 = .ok (.getfield 10, 3) := by decide +kernel
theorem dX4_forget_33 : decode cX4_forget 33 = .ok (.dup, 1) := by decide +kernel
theorem dX4_forget_34 : decode cX4_forget 34 = .ok (.getfield 112, 3) := by decide +kernel
theorem dX4_forget_37 : decode cX4_forget 37 = .ok (.iconst 1, 1) := by decide +kernel
theorem dX4_forget_38 : decode cX4_forget 38 = .ok (.iadd, 1) := by decide +kernel
theorem dX4_forget_39 : decode cX4_forget 39 = .ok (.putfield 112, 3) := by decide +kernel
theorem dX4_forget_42 : decode cX4_forget 42 = .ok (.aload_n 0, 1) := by decide +kernel
theorem dX4_forget_43 : decode cX4_forget 43 = .ok (.getfield 10, 3) := by decide +kernel
theorem dX4_forget_46 : decode cX4_forget 46 = .ok (.invokevirtual 76, 3) := by decide +kernel
theorem dX4_forget_49 : decode cX4_forget 49 = .ok (.iload_n 2, 1) := by decide +kernel
theorem dX4_forget_50 : decode cX4_forget 50 = .ok (.ireturn, 1) := by decide +kernel
theorem dX4_append_0 : decode cX4_append 0 = .ok (.iload_n 1, 1) := by decide +kernel
theorem dX4_append_1 : decode cX4_append 1 = .ok (.bipush 33, 2) := by decide +kernel
theorem dX4_append_3 : decode cX4_append 3 = .ok (.bipush 126, 2) := by decide +kernel
theorem dX4_append_5 : decode cX4_append 5 = .ok (.invokestatic 60, 3) := by decide +kernel
theorem dX4_append_8 : decode cX4_append 8 = .ok (.aload_n 0, 1) := by decide +kernel
theorem dX4_append_9 : decode cX4_append 9 = .ok (.getfield 34, 3) := by decide +kernel
theorem dX4_append_12 : decode cX4_append 12 = .ok (.getfield 115, 3) := by decide +kernel
theorem dX4_append_15 : decode cX4_append 15 = .ok (.bipush 60, 2) := by decide +kernel
theorem dX4_append_17 : decode cX4_append 17 = .ok (.if_icmp .lt 13, 3) := by decide +kernel
theorem dX4_append_20 : decode cX4_append 20 = .ok (.new 118, 3) := by decide +kernel
theorem dX4_append_23 : decode cX4_append 23 = .ok (.dup, 1) := by decide +kernel
theorem dX4_append_24 : decode cX4_append 24 = .ok (.ldc 120, 2) := by decide +kernel
theorem dX4_append_26 : decode cX4_append 26 = .ok (.invokespecial 122, 3) := by decide +kernel
theorem dX4_append_29 : decode cX4_append 29 = .ok (.athrow, 1) := by decide +kernel
theorem dX4_append_30 : decode cX4_append 30 = .ok (.aload_n 0, 1) := by decide +kernel
theorem dX4_append_31 : decode cX4_append 31 = .ok (.getfield 34, 3) := by decide +kernel
theorem dX4_append_34 : decode cX4_append 34 = .ok (.getfield 125, 3) := by decide +kernel
theorem dX4_append_37 : decode cX4_append 37 = .ok (.aload_n 0, 1) := by decide +kernel
theorem dX4_append_38 : decode cX4_append 38 = .ok (.getfield 34, 3) := by decide +kernel
theorem dX4_append_41 : decode cX4_append 41 = .ok (.getfield 115, 3) := by decide +kernel
theorem dX4_append_44 : decode cX4_append 44 = .ok (.iload_n 1, 1) := by decide +kernel
theorem dX4_append_45 : decode cX4_append 45 = .ok (.iastore, 1) := by decide +kernel
theorem dX4_append_46 : decode cX4_append 46 = .ok (.aload_n 0, 1) := by decide +kernel
theorem dX4_append_47 : decode cX4_append 47 = .ok (.getfield 34, 3) := by decide +kernel
theorem dX4_append_50 : decode cX4_append 50 = .ok (.dup, 1) := by decide +kernel
theorem dX4_append_51 : decode cX4_append 51 = .ok (.getfield 115, 3) := by decide +kernel
theorem dX4_append_54 : decode cX4_append 54 = .ok (.iconst 1, 1) := by decide +kernel
theorem dX4_append_55 : decode cX4_append 55 = .ok (.iadd, 1) := by decide +kernel
theorem dX4_append_56 : decode cX4_append 56 = .ok (.putfield 115, 3) := by decide +kernel
theorem dX4_append_59 : decode cX4_append 59 = .ok (.aload_n 0, 1) := by decide +kernel
theorem dX4_append_60 : decode cX4_append 60 = .ok (.getfield 34, 3) := by decide +kernel
theorem dX4_append_63 : decode cX4_append 63 = .ok (.getfield 115, 3) := by decide +kernel
theorem dX4_append_66 : decode cX4_append 66 = .ok (.ireturn, 1) := by decide +kernel
theorem dX4_clearBuffer_0 : decode cX4_clearBuffer 0 = .ok (.aload_n 0, 1) := by decide +kernel
theorem dX4_clearBuffer_1 : decode cX4_clearBuffer 1 = .ok (.getfield 34, 3) := by decide +kernel
theorem dX4_clearBuffer_4 : decode cX4_clearBuffer 4 = .ok (.getfield 115, 3) := by decide +kernel
theorem dX4_clearBuffer_7 : decode cX4_clearBuffer 7 = .ok (.istore_n 1, 1) := by decide +kernel
theorem dX4_clearBuffer_8 : decode cX4_clearBuffer 8 = .ok (.aload_n 0, 1) := by decide +kernel
theorem dX4_clearBuffer_9 : decode cX4_clearBuffer 9 = .ok (.getfield 34, 3) := by decide +kernel
theorem dX4_clearBuffer_12 : decode cX4_clearBuffer 12 = .ok (.iconst 0, 1) := by decide +kernel
theorem dX4_clearBuffer_13 : decode cX4_clearBuffer 13 = .ok (.putfield 115, 3) := by decide +kernel
theorem dX4_clearBuffer_16 : decode cX4_clearBuffer 16 = .ok (.iload_n 1, 1) := by decide +kernel
theorem dX4_clearBuffer_17 : decode cX4_clearBuffer 17 = .ok (.ireturn, 1) := by decide +kernel
theorem dX4_firstError_0 : decode cX4_firstError 0 = .ok (.aload_n 0, 1) := by decide +kernel
theorem dX4_firstError_1 : decode cX4_firstError 1 = .ok (.getfield 34, 3) := by decide +kernel
theorem dX4_firstError_4 : decode cX4_firstError 4 = .ok (.invokevirtual 128, 3) := by decide +kernel
theorem dX4_firstError_7 : decode cX4_firstError 7 = .ok (.ireturn, 1) := by decide +kernel
theorem dX4_circleAt_0 : decode cX4_circleAt 0 = .ok (.aload_n 0, 1) := by decide +kernel
theorem dX4_circleAt_1 : decode cX4_circleAt 1 = .ok (.getfield 34, 3) := by decide +kernel
theorem dX4_circleAt_4 : decode cX4_circleAt 4 = .ok (.invokevirtual 132, 3) := by decide +kernel
theorem dX4_circleAt_7 : decode cX4_circleAt 7 = .ok (.ifCond .ne 13, 3) := by decide +kernel
theorem dX4_circleAt_10 : decode cX4_circleAt 10 = .ok (.new 118, 3) := by decide +kernel
theorem dX4_circleAt_13 : decode cX4_circleAt 13 = .ok (.dup, 1) := by decide +kernel
theorem dX4_circleAt_14 : decode cX4_circleAt 14 = .ok (.ldc 136, 2) := by decide +kernel
theorem dX4_circleAt_16 : decode cX4_circleAt 16 = .ok (.invokespecial 122, 3) := by decide +kernel
theorem dX4_circleAt_19 : decode cX4_circleAt 19 = .ok (.athrow, 1) := by decide +kernel
theorem dX4_circleAt_20 : decode cX4_circleAt 20 = .ok (.aload_n 0, 1) := by decide +kernel
theorem dX4_circleAt_21 : decode cX4_circleAt 21 = .ok (.getfield 34, 3) := by decide +kernel
theorem dX4_circleAt_24 : decode cX4_circleAt 24 = .ok (.iload_n 1, 1) := by decide +kernel
theorem dX4_circleAt_25 : decode cX4_circleAt 25 = .ok (.invokevirtual 138, 3) := by decide +kernel
theorem dX4_circleAt_28 : decode cX4_circleAt 28 = .ok (.ifCond .ne 13, 3) := by decide +kernel
theorem dX4_circleAt_31 : decode cX4_circleAt 31 = .ok (.new 142, 3) := by decide +kernel
theorem dX4_circleAt_34 : decode cX4_circleAt 34 = .ok (.dup, 1) := by decide +kernel
theorem dX4_circleAt_35 : decode cX4_circleAt 35 = .ok (.ldc 144, 2) := by decide +kernel
theorem dX4_circleAt_37 : decode cX4_circleAt 37 = .ok (.invokespecial 146, 3) := by decide +kernel
theorem dX4_circleAt_40 : decode cX4_circleAt 40 = .ok (.athrow, 1) := by decide +kernel
theorem dX4_circleAt_41 : decode cX4_circleAt 41 = .ok (.iload_n 2, 1) := by decide +kernel
theorem dX4_circleAt_42 : decode cX4_circleAt 42 = .ok (.invokestatic 95, 3) := by decide +kernel
theorem dX4_circleAt_45 : decode cX4_circleAt 45 = .ok (.aload_n 0, 1) := by decide +kernel
theorem dX4_circleAt_46 : decode cX4_circleAt 46 = .ok (.aload_n 0, 1) := by decide +kernel
theorem dX4_circleAt_47 : decode cX4_circleAt 47 = .ok (.getfield 34, 3) := by decide +kernel
theorem dX4_circleAt_50 : decode cX4_circleAt 50 = .ok (.iload_n 1, 1) := by decide +kernel
theorem dX4_circleAt_51 : decode cX4_circleAt 51 = .ok (.invokevirtual 147, 3) := by decide +kernel
theorem dX4_circleAt_54 : decode cX4_circleAt 54 = .ok (.iload_n 2, 1) := by decide +kernel
theorem dX4_circleAt_55 : decode cX4_circleAt 55 = .ok (.invokevirtual 98, 3) := by decide +kernel
theorem dX4_circleAt_58 : decode cX4_circleAt 58 = .ok (.ireturn, 1) := by decide +kernel
theorem dX4_keep_0 : decode cX4_keep 0 = .ok (.iload_n 1, 1) := by decide +kernel
theorem dX4_keep_1 : decode cX4_keep 1 = .ok (.iconst 0, 1) := by decide +kernel
theorem dX4_keep_2 : decode cX4_keep 2 = .ok (.iconst 1, 1) := by decide +kernel
theorem dX4_keep_3 : decode cX4_keep 3 = .ok (.invokestatic 60, 3) := by decide +kernel
theorem dX4_keep_6 : decode cX4_keep 6 = .ok (.aload_n 0, 1) := by decide +kernel
theorem dX4_keep_7 : decode cX4_keep 7 = .ok (.getfield 24, 3) := by decide +kernel
theorem dX4_keep_10 : decode cX4_keep 10 = .ok (.iload_n 1, 1) := by decide +kernel
theorem dX4_keep_11 : decode cX4_keep 11 = .ok (.aaload, 1) := by decide +kernel
theorem dX4_keep_12 : decode cX4_keep 12 = .ok (.aload_n 0, 1) := by decide +kernel
theorem dX4_keep_13 : decode cX4_keep 13 = .ok (.getfield 10, 3) := by decide +kernel
theorem dX4_keep_16 : decode cX4_keep 16 = .ok (.invokevirtual 150, 3) := by decide +kernel
theorem dX4_keep_19 : decode cX4_keep 19 = .ok (.aload_n 0, 1) := by decide +kernel
theorem dX4_keep_20 : decode cX4_keep 20 = .ok (.getfield 27, 3) := by decide +kernel
theorem dX4_keep_23 : decode cX4_keep 23 = .ok (.iload_n 1, 1) := by decide +kernel
theorem dX4_keep_24 : decode cX4_keep 24 = .ok (.iconst 1, 1) := by decide +kernel
theorem dX4_keep_25 : decode cX4_keep 25 = .ok (.bastore, 1) := by decide +kernel
theorem dX4_keep_26 : decode cX4_keep 26 = .ok (.aload_n 0, 1) := by decide +kernel
theorem dX4_keep_27 : decode cX4_keep 27 = .ok (.getfield 10, 3) := by decide +kernel
theorem dX4_keep_30 : decode cX4_keep 30 = .ok (.getfield 102, 3) := by decide +kernel
theorem dX4_keep_33 : decode cX4_keep 33 = .ok (.ireturn, 1) := by decide +kernel
theorem dX4_goBack_0 : decode cX4_goBack 0 = .ok (.iload_n 1, 1) := by decide +kernel
theorem dX4_goBack_1 : decode cX4_goBack 1 = .ok (.iconst 0, 1) := by decide +kernel
theorem dX4_goBack_2 : decode cX4_goBack 2 = .ok (.iconst 1, 1) := by decide +kernel
theorem dX4_goBack_3 : decode cX4_goBack 3 = .ok (.invokestatic 60, 3) := by decide +kernel
theorem dX4_goBack_6 : decode cX4_goBack 6 = .ok (.aload_n 0, 1) := by decide +kernel
theorem dX4_goBack_7 : decode cX4_goBack 7 = .ok (.getfield 27, 3) := by decide +kernel
theorem dX4_goBack_10 : decode cX4_goBack 10 = .ok (.iload_n 1, 1) := by decide +kernel
theorem dX4_goBack_11 : decode cX4_goBack 11 = .ok (.baload, 1) := by decide +kernel
theorem dX4_goBack_12 : decode cX4_goBack 12 = .ok (.ifCond .ne 13, 3) := by decide +kernel
theorem dX4_goBack_15 : decode cX4_goBack 15 = .ok (.new 118, 3) := by decide +kernel
theorem dX4_goBack_18 : decode cX4_goBack 18 = .ok (.dup, 1) := by decide +kernel
theorem dX4_goBack_19 : decode cX4_goBack 19 = .ok (.ldc 154, 2) := by decide +kernel
theorem dX4_goBack_21 : decode cX4_goBack 21 = .ok (.invokespecial 122, 3) := by decide +kernel
theorem dX4_goBack_24 : decode cX4_goBack 24 = .ok (.athrow, 1) := by decide +kernel
theorem dX4_goBack_25 : decode cX4_goBack 25 = .ok (.aload_n 0, 1) := by decide +kernel
theorem dX4_goBack_26 : decode cX4_goBack 26 = .ok (.invokevirtual 64, 3) := by decide +kernel
theorem dX4_goBack_29 : decode cX4_goBack 29 = .ok (.aload_n 0, 1) := by decide +kernel
theorem dX4_goBack_30 : decode cX4_goBack 30 = .ok (.getfield 10, 3) := by decide +kernel
theorem dX4_goBack_33 : decode cX4_goBack 33 = .ok (.aload_n 0, 1) := by decide +kernel
theorem dX4_goBack_34 : decode cX4_goBack 34 = .ok (.getfield 24, 3) := by decide +kernel
theorem dX4_goBack_37 : decode cX4_goBack 37 = .ok (.iload_n 1, 1) := by decide +kernel
theorem dX4_goBack_38 : decode cX4_goBack 38 = .ok (.aaload, 1) := by decide +kernel
theorem dX4_goBack_39 : decode cX4_goBack 39 = .ok (.invokevirtual 150, 3) := by decide +kernel
theorem dX4_goBack_42 : decode cX4_goBack 42 = .ok (.aload_n 0, 1) := by decide +kernel
theorem dX4_goBack_43 : decode cX4_goBack 43 = .ok (.getfield 10, 3) := by decide +kernel
theorem dX4_goBack_46 : decode cX4_goBack 46 = .ok (.getfield 102, 3) := by decide +kernel
theorem dX4_goBack_49 : decode cX4_goBack 49 = .ok (.ireturn, 1) := by decide +kernel
theorem dX4_undo_0 : decode cX4_undo 0 = .ok (.aload_n 0, 1) := by decide +kernel
theorem dX4_undo_1 : decode cX4_undo 1 = .ok (.getfield 20, 3) := by decide +kernel
theorem dX4_undo_4 : decode cX4_undo 4 = .ok (.iconst 1, 1) := by decide +kernel
theorem dX4_undo_5 : decode cX4_undo 5 = .ok (.if_icmp .ge 13, 3) := by decide +kernel
theorem dX4_undo_8 : decode cX4_undo 8 = .ok (.new 118, 3) := by decide +kernel
theorem dX4_undo_11 : decode cX4_undo 11 = .ok (.dup, 1) := by decide +kernel
theorem dX4_undo_12 : decode cX4_undo 12 = .ok (.ldc 156, 2) := by decide +kernel
theorem dX4_undo_14 : decode cX4_undo 14 = .ok (.invokespecial 122, 3) := by decide +kernel
theorem dX4_undo_17 : decode cX4_undo 17 = .ok (.athrow, 1) := by decide +kernel
theorem dX4_undo_18 : decode cX4_undo 18 = .ok (.aload_n 0, 1) := by decide +kernel
theorem dX4_undo_19 : decode cX4_undo 19 = .ok (.dup, 1) := by decide +kernel
theorem dX4_undo_20 : decode cX4_undo 20 = .ok (.getfield 20, 3) := by decide +kernel
theorem dX4_undo_23 : decode cX4_undo 23 = .ok (.iconst 1, 1) := by decide +kernel
theorem dX4_undo_24 : decode cX4_undo 24 = .ok (.isub, 1) := by decide +kernel
theorem dX4_undo_25 : decode cX4_undo 25 = .ok (.putfield 20, 3) := by decide +kernel
theorem dX4_undo_28 : decode cX4_undo 28 = .ok (.aload_n 0, 1) := by decide +kernel
theorem dX4_undo_29 : decode cX4_undo 29 = .ok (.getfield 10, 3) := by decide +kernel
theorem dX4_undo_32 : decode cX4_undo 32 = .ok (.aload_n 0, 1) := by decide +kernel
theorem dX4_undo_33 : decode cX4_undo 33 = .ok (.getfield 16, 3) := by decide +kernel
theorem dX4_undo_36 : decode cX4_undo 36 = .ok (.aload_n 0, 1) := by decide +kernel
theorem dX4_undo_37 : decode cX4_undo 37 = .ok (.getfield 20, 3) := by decide +kernel
theorem dX4_undo_40 : decode cX4_undo 40 = .ok (.aaload, 1) := by decide +kernel
theorem dX4_undo_41 : decode cX4_undo 41 = .ok (.invokevirtual 150, 3) := by decide +kernel
theorem dX4_undo_44 : decode cX4_undo 44 = .ok (.aload_n 0, 1) := by decide +kernel
theorem dX4_undo_45 : decode cX4_undo 45 = .ok (.getfield 20, 3) := by decide +kernel
theorem dX4_undo_48 : decode cX4_undo 48 = .ok (.ireturn, 1) := by decide +kernel
theorem dX4_letterOf_0 : decode cX4_letterOf 0 = .ok (.iload_n 1, 1) := by decide +kernel
theorem dX4_letterOf_1 : decode cX4_letterOf 1 = .ok (.invokestatic 56, 3) := by decide +kernel
theorem dX4_letterOf_4 : decode cX4_letterOf 4 = .ok (.iload_n 2, 1) := by decide +kernel
theorem dX4_letterOf_5 : decode cX4_letterOf 5 = .ok (.iconst 0, 1) := by decide +kernel
theorem dX4_letterOf_6 : decode cX4_letterOf 6 = .ok (.iconst 3, 1) := by decide +kernel
theorem dX4_letterOf_7 : decode cX4_letterOf 7 = .ok (.invokestatic 60, 3) := by decide +kernel
theorem dX4_letterOf_10 : decode cX4_letterOf 10 = .ok (.iload_n 2, 1) := by decide +kernel
theorem dX4_letterOf_11 : decode cX4_letterOf 11 = .ok (.tableswitch 55 0 2 #[25, 35, 45], 25) := by decide +kernel
theorem dX4_letterOf_36 : decode cX4_letterOf 36 = .ok (.aload_n 0, 1) := by decide +kernel
theorem dX4_letterOf_37 : decode cX4_letterOf 37 = .ok (.getfield 10, 3) := by decide +kernel
theorem dX4_letterOf_40 : decode cX4_letterOf 40 = .ok (.getfield 67, 3) := by decide +kernel
theorem dX4_letterOf_43 : decode cX4_letterOf 43 = .ok (.iload_n 1, 1) := by decide +kernel
theorem dX4_letterOf_44 : decode cX4_letterOf 44 = .ok (.iaload, 1) := by decide +kernel
theorem dX4_letterOf_45 : decode cX4_letterOf 45 = .ok (.ireturn, 1) := by decide +kernel
theorem dX4_letterOf_46 : decode cX4_letterOf 46 = .ok (.aload_n 0, 1) := by decide +kernel
theorem dX4_letterOf_47 : decode cX4_letterOf 47 = .ok (.getfield 10, 3) := by decide +kernel
theorem dX4_letterOf_50 : decode cX4_letterOf 50 = .ok (.getfield 70, 3) := by decide +kernel
theorem dX4_letterOf_53 : decode cX4_letterOf 53 = .ok (.iload_n 1, 1) := by decide +kernel
theorem dX4_letterOf_54 : decode cX4_letterOf 54 = .ok (.iaload, 1) := by decide +kernel
theorem dX4_letterOf_55 : decode cX4_letterOf 55 = .ok (.ireturn, 1) := by decide +kernel
theorem dX4_letterOf_56 : decode cX4_letterOf 56 = .ok (.aload_n 0, 1) := by decide +kernel
theorem dX4_letterOf_57 : decode cX4_letterOf 57 = .ok (.getfield 10, 3) := by decide +kernel
theorem dX4_letterOf_60 : decode cX4_letterOf 60 = .ok (.getfield 73, 3) := by decide +kernel
theorem dX4_letterOf_63 : decode cX4_letterOf 63 = .ok (.iload_n 1, 1) := by decide +kernel
theorem dX4_letterOf_64 : decode cX4_letterOf 64 = .ok (.iaload, 1) := by decide +kernel
theorem dX4_letterOf_65 : decode cX4_letterOf 65 = .ok (.ireturn, 1) := by decide +kernel
theorem dX4_letterOf_66 : decode cX4_letterOf 66 = .ok (.aload_n 0, 1) := by decide +kernel
theorem dX4_letterOf_67 : decode cX4_letterOf 67 = .ok (.getfield 10, 3) := by decide +kernel
theorem dX4_letterOf_70 : decode cX4_letterOf 70 = .ok (.iload_n 1, 1) := by decide +kernel
theorem dX4_letterOf_71 : decode cX4_letterOf 71 = .ok (.invokevirtual 158, 3) := by decide +kernel
theorem dX4_letterOf_74 : decode cX4_letterOf 74 = .ok (.ireturn, 1) := by decide +kernel
theorem dX4_pairOf_0 : decode cX4_pairOf 0 = .ok (.iload_n 1, 1) := by decide +kernel
theorem dX4_pairOf_1 : decode cX4_pairOf 1 = .ok (.invokestatic 56, 3) := by decide +kernel
theorem dX4_pairOf_4 : decode cX4_pairOf 4 = .ok (.iload_n 2, 1) := by decide +kernel
theorem dX4_pairOf_5 : decode cX4_pairOf 5 = .ok (.invokestatic 56, 3) := by decide +kernel
theorem dX4_pairOf_8 : decode cX4_pairOf 8 = .ok (.iload_n 3, 1) := by decide +kernel
theorem dX4_pairOf_9 : decode cX4_pairOf 9 = .ok (.iconst 0, 1) := by decide +kernel
theorem dX4_pairOf_10 : decode cX4_pairOf 10 = .ok (.iconst 4, 1) := by decide +kernel
theorem dX4_pairOf_11 : decode cX4_pairOf 11 = .ok (.invokestatic 60, 3) := by decide +kernel
theorem dX4_pairOf_14 : decode cX4_pairOf 14 = .ok (.bipush 10, 2) := by decide +kernel
theorem dX4_pairOf_16 : decode cX4_pairOf 16 = .ok (.iload_n 1, 1) := by decide +kernel
theorem dX4_pairOf_17 : decode cX4_pairOf 17 = .ok (.imul, 1) := by decide +kernel
theorem dX4_pairOf_18 : decode cX4_pairOf 18 = .ok (.iload_n 2, 1) := by decide +kernel
theorem dX4_pairOf_19 : decode cX4_pairOf 19 = .ok (.iadd, 1) := by decide +kernel
theorem dX4_pairOf_20 : decode cX4_pairOf 20 = .ok (.istore 4, 2) := by decide +kernel
theorem dX4_pairOf_22 : decode cX4_pairOf 22 = .ok (.iload_n 3, 1) := by decide +kernel
theorem dX4_pairOf_23 : decode cX4_pairOf 23 = .ok (.tableswitch 109 0 3 #[29, 49, 78, 95], 29) := by decide +kernel
theorem dX4_pairOf_52 : decode cX4_pairOf 52 = .ok (.aload_n 0, 1) := by decide +kernel
theorem dX4_pairOf_53 : decode cX4_pairOf 53 = .ok (.getfield 10, 3) := by decide +kernel
theorem dX4_pairOf_56 : decode cX4_pairOf 56 = .ok (.getfield 161, 3) := by decide +kernel
theorem dX4_pairOf_59 : decode cX4_pairOf 59 = .ok (.aload_n 0, 1) := by decide +kernel
theorem dX4_pairOf_60 : decode cX4_pairOf 60 = .ok (.getfield 10, 3) := by decide +kernel
theorem dX4_pairOf_63 : decode cX4_pairOf 63 = .ok (.iload 4, 2) := by decide +kernel
theorem dX4_pairOf_65 : decode cX4_pairOf 65 = .ok (.invokevirtual 164, 3) := by decide +kernel
theorem dX4_pairOf_68 : decode cX4_pairOf 68 = .ok (.bipush 100, 2) := by decide +kernel
theorem dX4_pairOf_70 : decode cX4_pairOf 70 = .ok (.iadd, 1) := by decide +kernel
theorem dX4_pairOf_71 : decode cX4_pairOf 71 = .ok (.ireturn, 1) := by decide +kernel
theorem dX4_pairOf_72 : decode cX4_pairOf 72 = .ok (.aload_n 0, 1) := by decide +kernel
theorem dX4_pairOf_73 : decode cX4_pairOf 73 = .ok (.getfield 41, 3) := by decide +kernel
theorem dX4_pairOf_76 : decode cX4_pairOf 76 = .ok (.aload_n 0, 1) := by decide +kernel
theorem dX4_pairOf_77 : decode cX4_pairOf 77 = .ok (.getfield 10, 3) := by decide +kernel
theorem dX4_pairOf_80 : decode cX4_pairOf 80 = .ok (.iconst (-1), 1) := by decide +kernel
theorem dX4_pairOf_81 : decode cX4_pairOf 81 = .ok (.invokevirtual 168, 3) := by decide +kernel
theorem dX4_pairOf_84 : decode cX4_pairOf 84 = .ok (.aload_n 0, 1) := by decide +kernel
theorem dX4_pairOf_85 : decode cX4_pairOf 85 = .ok (.getfield 41, 3) := by decide +kernel
theorem dX4_pairOf_88 : decode cX4_pairOf 88 = .ok (.aload_n 0, 1) := by decide +kernel
theorem dX4_pairOf_89 : decode cX4_pairOf 89 = .ok (.getfield 10, 3) := by decide +kernel
theorem dX4_pairOf_92 : decode cX4_pairOf 92 = .ok (.iload 4, 2) := by decide +kernel
theorem dX4_pairOf_94 : decode cX4_pairOf 94 = .ok (.invokevirtual 164, 3) := by decide +kernel
theorem dX4_pairOf_97 : decode cX4_pairOf 97 = .ok (.bipush 100, 2) := by decide +kernel
theorem dX4_pairOf_99 : decode cX4_pairOf 99 = .ok (.iadd, 1) := by decide +kernel
theorem dX4_pairOf_100 : decode cX4_pairOf 100 = .ok (.ireturn, 1) := by decide +kernel
theorem dX4_pairOf_101 : decode cX4_pairOf 101 = .ok (.aload_n 0, 1) := by decide +kernel
theorem dX4_pairOf_102 : decode cX4_pairOf 102 = .ok (.getfield 10, 3) := by decide +kernel
theorem dX4_pairOf_105 : decode cX4_pairOf 105 = .ok (.getfield 161, 3) := by decide +kernel
theorem dX4_pairOf_108 : decode cX4_pairOf 108 = .ok (.getfield 172, 3) := by decide +kernel
theorem dX4_pairOf_111 : decode cX4_pairOf 111 = .ok (.iload 4, 2) := by decide +kernel
theorem dX4_pairOf_113 : decode cX4_pairOf 113 = .ok (.iaload, 1) := by decide +kernel
theorem dX4_pairOf_114 : decode cX4_pairOf 114 = .ok (.bipush 100, 2) := by decide +kernel
theorem dX4_pairOf_116 : decode cX4_pairOf 116 = .ok (.iadd, 1) := by decide +kernel
theorem dX4_pairOf_117 : decode cX4_pairOf 117 = .ok (.ireturn, 1) := by decide +kernel
theorem dX4_pairOf_118 : decode cX4_pairOf 118 = .ok (.aload_n 0, 1) := by decide +kernel
theorem dX4_pairOf_119 : decode cX4_pairOf 119 = .ok (.getfield 10, 3) := by decide +kernel
theorem dX4_pairOf_122 : decode cX4_pairOf 122 = .ok (.getfield 161, 3) := by decide +kernel
theorem dX4_pairOf_125 : decode cX4_pairOf 125 = .ok (.getfield 175, 3) := by decide +kernel
theorem dX4_pairOf_128 : decode cX4_pairOf 128 = .ok (.iload 4, 2) := by decide +kernel
theorem dX4_pairOf_130 : decode cX4_pairOf 130 = .ok (.iaload, 1) := by decide +kernel
theorem dX4_pairOf_131 : decode cX4_pairOf 131 = .ok (.ireturn, 1) := by decide +kernel
theorem dX4_pairOf_132 : decode cX4_pairOf 132 = .ok (.aload_n 0, 1) := by decide +kernel
theorem dX4_pairOf_133 : decode cX4_pairOf 133 = .ok (.getfield 10, 3) := by decide +kernel
theorem dX4_pairOf_136 : decode cX4_pairOf 136 = .ok (.getfield 161, 3) := by decide +kernel
theorem dX4_pairOf_139 : decode cX4_pairOf 139 = .ok (.getfield 178, 3) := by decide +kernel
theorem dX4_pairOf_142 : decode cX4_pairOf 142 = .ok (.iload 4, 2) := by decide +kernel
theorem dX4_pairOf_144 : decode cX4_pairOf 144 = .ok (.iaload, 1) := by decide +kernel
theorem dX4_pairOf_145 : decode cX4_pairOf 145 = .ok (.ireturn, 1) := by decide +kernel
theorem dX4_shapesOf_0 : decode cX4_shapesOf 0 = .ok (.iload_n 1, 1) := by decide +kernel
theorem dX4_shapesOf_1 : decode cX4_shapesOf 1 = .ok (.iconst 4, 1) := by decide +kernel
theorem dX4_shapesOf_2 : decode cX4_shapesOf 2 = .ok (.invokestatic 79, 3) := by decide +kernel
theorem dX4_shapesOf_5 : decode cX4_shapesOf 5 = .ok (.iload_n 2, 1) := by decide +kernel
theorem dX4_shapesOf_6 : decode cX4_shapesOf 6 = .ok (.iconst 4, 1) := by decide +kernel
theorem dX4_shapesOf_7 : decode cX4_shapesOf 7 = .ok (.invokestatic 79, 3) := by decide +kernel
theorem dX4_shapesOf_10 : decode cX4_shapesOf 10 = .ok (.iload_n 3, 1) := by decide +kernel
theorem dX4_shapesOf_11 : decode cX4_shapesOf 11 = .ok (.iconst 0, 1) := by decide +kernel
theorem dX4_shapesOf_12 : decode cX4_shapesOf 12 = .ok (.iconst 3, 1) := by decide +kernel
theorem dX4_shapesOf_13 : decode cX4_shapesOf 13 = .ok (.invokestatic 60, 3) := by decide +kernel
theorem dX4_shapesOf_16 : decode cX4_shapesOf 16 = .ok (.iconst 4, 1) := by decide +kernel
theorem dX4_shapesOf_17 : decode cX4_shapesOf 17 = .ok (.iload_n 1, 1) := by decide +kernel
theorem dX4_shapesOf_18 : decode cX4_shapesOf 18 = .ok (.imul, 1) := by decide +kernel
theorem dX4_shapesOf_19 : decode cX4_shapesOf 19 = .ok (.iload_n 2, 1) := by decide +kernel
theorem dX4_shapesOf_20 : decode cX4_shapesOf 20 = .ok (.iadd, 1) := by decide +kernel
theorem dX4_shapesOf_21 : decode cX4_shapesOf 21 = .ok (.istore 4, 2) := by decide +kernel
theorem dX4_shapesOf_23 : decode cX4_shapesOf 23 = .ok (.iload_n 3, 1) := by decide +kernel
theorem dX4_shapesOf_24 : decode cX4_shapesOf 24 = .ok (.tableswitch 69 0 2 #[28, 45, 59], 28) := by decide +kernel
theorem dX4_shapesOf_52 : decode cX4_shapesOf 52 = .ok (.aload_n 0, 1) := by decide +kernel
theorem dX4_shapesOf_53 : decode cX4_shapesOf 53 = .ok (.getfield 10, 3) := by decide +kernel
theorem dX4_shapesOf_56 : decode cX4_shapesOf 56 = .ok (.getfield 161, 3) := by decide +kernel
theorem dX4_shapesOf_59 : decode cX4_shapesOf 59 = .ok (.getfield 181, 3) := by decide +kernel
theorem dX4_shapesOf_62 : decode cX4_shapesOf 62 = .ok (.iload 4, 2) := by decide +kernel
theorem dX4_shapesOf_64 : decode cX4_shapesOf 64 = .ok (.iaload, 1) := by decide +kernel
theorem dX4_shapesOf_65 : decode cX4_shapesOf 65 = .ok (.bipush 100, 2) := by decide +kernel
theorem dX4_shapesOf_67 : decode cX4_shapesOf 67 = .ok (.iadd, 1) := by decide +kernel
theorem dX4_shapesOf_68 : decode cX4_shapesOf 68 = .ok (.ireturn, 1) := by decide +kernel
theorem dX4_shapesOf_69 : decode cX4_shapesOf 69 = .ok (.aload_n 0, 1) := by decide +kernel
theorem dX4_shapesOf_70 : decode cX4_shapesOf 70 = .ok (.getfield 10, 3) := by decide +kernel
theorem dX4_shapesOf_73 : decode cX4_shapesOf 73 = .ok (.getfield 83, 3) := by decide +kernel
theorem dX4_shapesOf_76 : decode cX4_shapesOf 76 = .ok (.iload 4, 2) := by decide +kernel
theorem dX4_shapesOf_78 : decode cX4_shapesOf 78 = .ok (.iaload, 1) := by decide +kernel
theorem dX4_shapesOf_79 : decode cX4_shapesOf 79 = .ok (.bipush 100, 2) := by decide +kernel
theorem dX4_shapesOf_81 : decode cX4_shapesOf 81 = .ok (.iadd, 1) := by decide +kernel
theorem dX4_shapesOf_82 : decode cX4_shapesOf 82 = .ok (.ireturn, 1) := by decide +kernel
theorem dX4_shapesOf_83 : decode cX4_shapesOf 83 = .ok (.aload_n 0, 1) := by decide +kernel
theorem dX4_shapesOf_84 : decode cX4_shapesOf 84 = .ok (.getfield 10, 3) := by decide +kernel
theorem dX4_shapesOf_87 : decode cX4_shapesOf 87 = .ok (.iload 4, 2) := by decide +kernel
theorem dX4_shapesOf_89 : decode cX4_shapesOf 89 = .ok (.invokevirtual 184, 3) := by decide +kernel
theorem dX4_shapesOf_92 : decode cX4_shapesOf 92 = .ok (.ireturn, 1) := by decide +kernel
theorem dX4_shapesOf_93 : decode cX4_shapesOf 93 = .ok (.aload_n 0, 1) := by decide +kernel
theorem dX4_shapesOf_94 : decode cX4_shapesOf 94 = .ok (.getfield 10, 3) := by decide +kernel
theorem dX4_shapesOf_97 : decode cX4_shapesOf 97 = .ok (.iload 4, 2) := by decide +kernel
theorem dX4_shapesOf_99 : decode cX4_shapesOf 99 = .ok (.invokevirtual 187, 3) := by decide +kernel
theorem dX4_shapesOf_102 : decode cX4_shapesOf 102 = .ok (.ireturn, 1) := by decide +kernel
theorem dX4_lessonOf_0 : decode cX4_lessonOf 0 = .ok (.iload_n 1, 1) := by decide +kernel
theorem dX4_lessonOf_1 : decode cX4_lessonOf 1 = .ok (.aload_n 0, 1) := by decide +kernel
theorem dX4_lessonOf_2 : decode cX4_lessonOf 2 = .ok (.getfield 10, 3) := by decide +kernel
theorem dX4_lessonOf_5 : decode cX4_lessonOf 5 = .ok (.getfield 102, 3) := by decide +kernel
theorem dX4_lessonOf_8 : decode cX4_lessonOf 8 = .ok (.invokestatic 79, 3) := by decide +kernel
theorem dX4_lessonOf_11 : decode cX4_lessonOf 11 = .ok (.iload_n 2, 1) := by decide +kernel
theorem dX4_lessonOf_12 : decode cX4_lessonOf 12 = .ok (.iconst 0, 1) := by decide +kernel
theorem dX4_lessonOf_13 : decode cX4_lessonOf 13 = .ok (.iconst 3, 1) := by decide +kernel
theorem dX4_lessonOf_14 : decode cX4_lessonOf 14 = .ok (.invokestatic 60, 3) := by decide +kernel
theorem dX4_lessonOf_17 : decode cX4_lessonOf 17 = .ok (.iload_n 2, 1) := by decide +kernel
theorem dX4_lessonOf_18 : decode cX4_lessonOf 18 = .ok (.tableswitch 71 0 2 #[26, 39, 52], 26) := by decide +kernel
theorem dX4_lessonOf_44 : decode cX4_lessonOf 44 = .ok (.aload_n 0, 1) := by decide +kernel
theorem dX4_lessonOf_45 : decode cX4_lessonOf 45 = .ok (.getfield 10, 3) := by decide +kernel
theorem dX4_lessonOf_48 : decode cX4_lessonOf 48 = .ok (.getfield 190, 3) := by decide +kernel
theorem dX4_lessonOf_51 : decode cX4_lessonOf 51 = .ok (.iload_n 1, 1) := by decide +kernel
theorem dX4_lessonOf_52 : decode cX4_lessonOf 52 = .ok (.iaload, 1) := by decide +kernel
theorem dX4_lessonOf_53 : decode cX4_lessonOf 53 = .ok (.bipush 10, 2) := by decide +kernel
theorem dX4_lessonOf_55 : decode cX4_lessonOf 55 = .ok (.idiv, 1) := by decide +kernel
theorem dX4_lessonOf_56 : decode cX4_lessonOf 56 = .ok (.ireturn, 1) := by decide +kernel
theorem dX4_lessonOf_57 : decode cX4_lessonOf 57 = .ok (.aload_n 0, 1) := by decide +kernel
theorem dX4_lessonOf_58 : decode cX4_lessonOf 58 = .ok (.getfield 10, 3) := by decide +kernel
theorem dX4_lessonOf_61 : decode cX4_lessonOf 61 = .ok (.getfield 190, 3) := by decide +kernel
theorem dX4_lessonOf_64 : decode cX4_lessonOf 64 = .ok (.iload_n 1, 1) := by decide +kernel
theorem dX4_lessonOf_65 : decode cX4_lessonOf 65 = .ok (.iaload, 1) := by decide +kernel
theorem dX4_lessonOf_66 : decode cX4_lessonOf 66 = .ok (.bipush 10, 2) := by decide +kernel
theorem dX4_lessonOf_68 : decode cX4_lessonOf 68 = .ok (.irem, 1) := by decide +kernel
theorem dX4_lessonOf_69 : decode cX4_lessonOf 69 = .ok (.ireturn, 1) := by decide +kernel
theorem dX4_lessonOf_70 : decode cX4_lessonOf 70 = .ok (.aload_n 0, 1) := by decide +kernel
theorem dX4_lessonOf_71 : decode cX4_lessonOf 71 = .ok (.getfield 10, 3) := by decide +kernel
theorem dX4_lessonOf_74 : decode cX4_lessonOf 74 = .ok (.getfield 193, 3) := by decide +kernel
theorem dX4_lessonOf_77 : decode cX4_lessonOf 77 = .ok (.iload_n 1, 1) := by decide +kernel
theorem dX4_lessonOf_78 : decode cX4_lessonOf 78 = .ok (.iaload, 1) := by decide +kernel
theorem dX4_lessonOf_79 : decode cX4_lessonOf 79 = .ok (.iconst 1, 1) := by decide +kernel
theorem dX4_lessonOf_80 : decode cX4_lessonOf 80 = .ok (.if_icmp .ne 7, 3) := by decide +kernel
theorem dX4_lessonOf_83 : decode cX4_lessonOf 83 = .ok (.iconst 1, 1) := by decide +kernel
theorem dX4_lessonOf_84 : decode cX4_lessonOf 84 = .ok (.goto 4, 3) := by decide +kernel
theorem dX4_lessonOf_87 : decode cX4_lessonOf 87 = .ok (.iconst 0, 1) := by decide +kernel
theorem dX4_lessonOf_88 : decode cX4_lessonOf 88 = .ok (.ireturn, 1) := by decide +kernel
theorem dX4_lessonOf_89 : decode cX4_lessonOf 89 = .ok (.aload_n 0, 1) := by decide +kernel
theorem dX4_lessonOf_90 : decode cX4_lessonOf 90 = .ok (.getfield 10, 3) := by decide +kernel
theorem dX4_lessonOf_93 : decode cX4_lessonOf 93 = .ok (.getfield 161, 3) := by decide +kernel
theorem dX4_lessonOf_96 : decode cX4_lessonOf 96 = .ok (.getfield 196, 3) := by decide +kernel
theorem dX4_lessonOf_99 : decode cX4_lessonOf 99 = .ok (.iload_n 1, 1) := by decide +kernel
theorem dX4_lessonOf_100 : decode cX4_lessonOf 100 = .ok (.iaload, 1) := by decide +kernel
theorem dX4_lessonOf_101 : decode cX4_lessonOf 101 = .ok (.ireturn, 1) := by decide +kernel
theorem dX4_count_0 : decode cX4_count 0 = .ok (.iload_n 1, 1) := by decide +kernel
theorem dX4_count_1 : decode cX4_count 1 = .ok (.iconst 0, 1) := by decide +kernel
theorem dX4_count_2 : decode cX4_count 2 = .ok (.bipush 7, 2) := by decide +kernel
theorem dX4_count_4 : decode cX4_count 4 = .ok (.invokestatic 60, 3) := by decide +kernel
theorem dX4_count_7 : decode cX4_count 7 = .ok (.iload_n 1, 1) := by decide +kernel
theorem dX4_count_8 : decode cX4_count 8 = .ok (.tableswitch 103 0 6 #[44, 52, 60, 71, 79, 87, 95], 44) := by decide +kernel
theorem dX4_count_52 : decode cX4_count 52 = .ok (.aload_n 0, 1) := by decide +kernel
theorem dX4_count_53 : decode cX4_count 53 = .ok (.getfield 10, 3) := by decide +kernel
theorem dX4_count_56 : decode cX4_count 56 = .ok (.getfield 102, 3) := by decide +kernel
theorem dX4_count_59 : decode cX4_count 59 = .ok (.ireturn, 1) := by decide +kernel
theorem dX4_count_60 : decode cX4_count 60 = .ok (.aload_n 0, 1) := by decide +kernel
theorem dX4_count_61 : decode cX4_count 61 = .ok (.getfield 10, 3) := by decide +kernel
theorem dX4_count_64 : decode cX4_count 64 = .ok (.invokevirtual 199, 3) := by decide +kernel
theorem dX4_count_67 : decode cX4_count 67 = .ok (.ireturn, 1) := by decide +kernel
theorem dX4_count_68 : decode cX4_count 68 = .ok (.aload_n 0, 1) := by decide +kernel
theorem dX4_count_69 : decode cX4_count 69 = .ok (.getfield 10, 3) := by decide +kernel
theorem dX4_count_72 : decode cX4_count 72 = .ok (.getfield 161, 3) := by decide +kernel
theorem dX4_count_75 : decode cX4_count 75 = .ok (.getfield 202, 3) := by decide +kernel
theorem dX4_count_78 : decode cX4_count 78 = .ok (.ireturn, 1) := by decide +kernel
theorem dX4_count_79 : decode cX4_count 79 = .ok (.aload_n 0, 1) := by decide +kernel
theorem dX4_count_80 : decode cX4_count 80 = .ok (.getfield 10, 3) := by decide +kernel
theorem dX4_count_83 : decode cX4_count 83 = .ok (.invokevirtual 205, 3) := by decide +kernel
theorem dX4_count_86 : decode cX4_count 86 = .ok (.ireturn, 1) := by decide +kernel
theorem dX4_count_87 : decode cX4_count 87 = .ok (.aload_n 0, 1) := by decide +kernel
theorem dX4_count_88 : decode cX4_count 88 = .ok (.getfield 10, 3) := by decide +kernel
theorem dX4_count_91 : decode cX4_count 91 = .ok (.getfield 208, 3) := by decide +kernel
theorem dX4_count_94 : decode cX4_count 94 = .ok (.ireturn, 1) := by decide +kernel
theorem dX4_count_95 : decode cX4_count 95 = .ok (.aload_n 0, 1) := by decide +kernel
theorem dX4_count_96 : decode cX4_count 96 = .ok (.getfield 10, 3) := by decide +kernel
theorem dX4_count_99 : decode cX4_count 99 = .ok (.getfield 112, 3) := by decide +kernel
theorem dX4_count_102 : decode cX4_count 102 = .ok (.ireturn, 1) := by decide +kernel
theorem dX4_count_103 : decode cX4_count 103 = .ok (.aload_n 0, 1) := by decide +kernel
theorem dX4_count_104 : decode cX4_count 104 = .ok (.getfield 10, 3) := by decide +kernel
theorem dX4_count_107 : decode cX4_count 107 = .ok (.getfield 211, 3) := by decide +kernel
theorem dX4_count_110 : decode cX4_count 110 = .ok (.ireturn, 1) := by decide +kernel
theorem dX4_count_111 : decode cX4_count 111 = .ok (.aload_n 0, 1) := by decide +kernel
theorem dX4_count_112 : decode cX4_count 112 = .ok (.getfield 20, 3) := by decide +kernel
theorem dX4_count_115 : decode cX4_count 115 = .ok (.ireturn, 1) := by decide +kernel
theorem dX4_setting_0 : decode cX4_setting 0 = .ok (.iload_n 1, 1) := by decide +kernel
theorem dX4_setting_1 : decode cX4_setting 1 = .ok (.iconst 4, 1) := by decide +kernel
theorem dX4_setting_2 : decode cX4_setting 2 = .ok (.invokestatic 79, 3) := by decide +kernel
theorem dX4_setting_5 : decode cX4_setting 5 = .ok (.aload_n 0, 1) := by decide +kernel
theorem dX4_setting_6 : decode cX4_setting 6 = .ok (.getfield 10, 3) := by decide +kernel
theorem dX4_setting_9 : decode cX4_setting 9 = .ok (.getfield 92, 3) := by decide +kernel
theorem dX4_setting_12 : decode cX4_setting 12 = .ok (.iload_n 1, 1) := by decide +kernel
theorem dX4_setting_13 : decode cX4_setting 13 = .ok (.iaload, 1) := by decide +kernel
theorem dX4_setting_14 : decode cX4_setting 14 = .ok (.ireturn, 1) := by decide +kernel
theorem dX4_text_0 : decode cX4_text 0 = .ok (.iload_n 1, 1) := by decide +kernel
theorem dX4_text_1 : decode cX4_text 1 = .ok (.iconst 0, 1) := by decide +kernel
theorem dX4_text_2 : decode cX4_text 2 = .ok (.iconst 5, 1) := by decide +kernel
theorem dX4_text_3 : decode cX4_text 3 = .ok (.invokestatic 60, 3) := by decide +kernel
theorem dX4_text_6 : decode cX4_text 6 = .ok (.aload_n 0, 1) := by decide +kernel
theorem dX4_text_7 : decode cX4_text 7 = .ok (.getfield 34, 3) := by decide +kernel
theorem dX4_text_10 : decode cX4_text 10 = .ok (.invokevirtual 132, 3) := by decide +kernel
theorem dX4_text_13 : decode cX4_text 13 = .ok (.ifCond .ne 5, 3) := by decide +kernel
theorem dX4_text_16 : decode cX4_text 16 = .ok (.iconst (-1), 1) := by decide +kernel
theorem dX4_text_17 : decode cX4_text 17 = .ok (.ireturn, 1) := by decide +kernel
theorem dX4_text_18 : decode cX4_text 18 = .ok (.aload_n 0, 1) := by decide +kernel
theorem dX4_text_19 : decode cX4_text 19 = .ok (.getfield 52, 3) := by decide +kernel
theorem dX4_text_22 : decode cX4_text 22 = .ok (.aload_n 0, 1) := by decide +kernel
theorem dX4_text_23 : decode cX4_text 23 = .ok (.getfield 10, 3) := by decide +kernel
theorem dX4_text_26 : decode cX4_text 26 = .ok (.aload_n 0, 1) := by decide +kernel
theorem dX4_text_27 : decode cX4_text 27 = .ok (.getfield 34, 3) := by decide +kernel
theorem dX4_text_30 : decode cX4_text 30 = .ok (.invokevirtual 214, 3) := by decide +kernel
theorem dX4_text_33 : decode cX4_text 33 = .ok (.iload_n 1, 1) := by decide +kernel
theorem dX4_text_34 : decode cX4_text 34 = .ok (.tableswitch 94 0 4 #[34, 50, 66, 74, 82], 34) := by decide +kernel
theorem dX4_text_68 : decode cX4_text 68 = .ok (.aload_n 0, 1) := by decide +kernel
theorem dX4_text_69 : decode cX4_text 69 = .ok (.getfield 52, 3) := by decide +kernel
theorem dX4_text_72 : decode cX4_text 72 = .ok (.aload_n 0, 1) := by decide +kernel
theorem dX4_text_73 : decode cX4_text 73 = .ok (.getfield 10, 3) := by decide +kernel
theorem dX4_text_76 : decode cX4_text 76 = .ok (.aload_n 0, 1) := by decide +kernel
theorem dX4_text_77 : decode cX4_text 77 = .ok (.getfield 34, 3) := by decide +kernel
theorem dX4_text_80 : decode cX4_text 80 = .ok (.invokevirtual 218, 3) := by decide +kernel
theorem dX4_text_83 : decode cX4_text 83 = .ok (.ireturn, 1) := by decide +kernel
theorem dX4_text_84 : decode cX4_text 84 = .ok (.aload_n 0, 1) := by decide +kernel
theorem dX4_text_85 : decode cX4_text 85 = .ok (.getfield 52, 3) := by decide +kernel
theorem dX4_text_88 : decode cX4_text 88 = .ok (.aload_n 0, 1) := by decide +kernel
theorem dX4_text_89 : decode cX4_text 89 = .ok (.getfield 10, 3) := by decide +kernel
theorem dX4_text_92 : decode cX4_text 92 = .ok (.aload_n 0, 1) := by decide +kernel
theorem dX4_text_93 : decode cX4_text 93 = .ok (.getfield 34, 3) := by decide +kernel
theorem dX4_text_96 : decode cX4_text 96 = .ok (.invokevirtual 222, 3) := by decide +kernel
theorem dX4_text_99 : decode cX4_text 99 = .ok (.ireturn, 1) := by decide +kernel
theorem dX4_text_100 : decode cX4_text 100 = .ok (.aload_n 0, 1) := by decide +kernel
theorem dX4_text_101 : decode cX4_text 101 = .ok (.getfield 52, 3) := by decide +kernel
theorem dX4_text_104 : decode cX4_text 104 = .ok (.getfield 225, 3) := by decide +kernel
theorem dX4_text_107 : decode cX4_text 107 = .ok (.ireturn, 1) := by decide +kernel
theorem dX4_text_108 : decode cX4_text 108 = .ok (.aload_n 0, 1) := by decide +kernel
theorem dX4_text_109 : decode cX4_text 109 = .ok (.getfield 52, 3) := by decide +kernel
theorem dX4_text_112 : decode cX4_text 112 = .ok (.invokevirtual 228, 3) := by decide +kernel
theorem dX4_text_115 : decode cX4_text 115 = .ok (.ireturn, 1) := by decide +kernel
theorem dX4_text_116 : decode cX4_text 116 = .ok (.aload_n 0, 1) := by decide +kernel
theorem dX4_text_117 : decode cX4_text 117 = .ok (.getfield 52, 3) := by decide +kernel
theorem dX4_text_120 : decode cX4_text 120 = .ok (.aload_n 0, 1) := by decide +kernel
theorem dX4_text_121 : decode cX4_text 121 = .ok (.getfield 10, 3) := by decide +kernel
theorem dX4_text_124 : decode cX4_text 124 = .ok (.invokevirtual 231, 3) := by decide +kernel
theorem dX4_text_127 : decode cX4_text 127 = .ok (.ireturn, 1) := by decide +kernel
theorem dX4_text_128 : decode cX4_text 128 = .ok (.aload_n 0, 1) := by decide +kernel
theorem dX4_text_129 : decode cX4_text 129 = .ok (.getfield 52, 3) := by decide +kernel
theorem dX4_text_132 : decode cX4_text 132 = .ok (.aload_n 0, 1) := by decide +kernel
theorem dX4_text_133 : decode cX4_text 133 = .ok (.getfield 10, 3) := by decide +kernel
theorem dX4_text_136 : decode cX4_text 136 = .ok (.invokevirtual 235, 3) := by decide +kernel
theorem dX4_text_139 : decode cX4_text 139 = .ok (.ireturn, 1) := by decide +kernel
theorem dX4_ifCircled_0 : decode cX4_ifCircled 0 = .ok (.iload_n 1, 1) := by decide +kernel
theorem dX4_ifCircled_1 : decode cX4_ifCircled 1 = .ok (.invokestatic 56, 3) := by decide +kernel
theorem dX4_ifCircled_4 : decode cX4_ifCircled 4 = .ok (.iload_n 2, 1) := by decide +kernel
theorem dX4_ifCircled_5 : decode cX4_ifCircled 5 = .ok (.invokestatic 56, 3) := by decide +kernel
theorem dX4_ifCircled_8 : decode cX4_ifCircled 8 = .ok (.iload_n 3, 1) := by decide +kernel
theorem dX4_ifCircled_9 : decode cX4_ifCircled 9 = .ok (.invokestatic 95, 3) := by decide +kernel
theorem dX4_ifCircled_12 : decode cX4_ifCircled 12 = .ok (.aload_n 0, 1) := by decide +kernel
theorem dX4_ifCircled_13 : decode cX4_ifCircled 13 = .ok (.getfield 10, 3) := by decide +kernel
theorem dX4_ifCircled_16 : decode cX4_ifCircled 16 = .ok (.getfield 102, 3) := by decide +kernel
theorem dX4_ifCircled_19 : decode cX4_ifCircled 19 = .ok (.bipush 40, 2) := by decide +kernel
theorem dX4_ifCircled_21 : decode cX4_ifCircled 21 = .ok (.if_icmp .lt 5, 3) := by decide +kernel
theorem dX4_ifCircled_24 : decode cX4_ifCircled 24 = .ok (.iconst (-1), 1) := by decide +kernel
theorem dX4_ifCircled_25 : decode cX4_ifCircled 25 = .ok (.ireturn, 1) := by decide +kernel
theorem dX4_ifCircled_26 : decode cX4_ifCircled 26 = .ok (.bipush 10, 2) := by decide +kernel
theorem dX4_ifCircled_28 : decode cX4_ifCircled 28 = .ok (.iload_n 1, 1) := by decide +kernel
theorem dX4_ifCircled_29 : decode cX4_ifCircled 29 = .ok (.imul, 1) := by decide +kernel
theorem dX4_ifCircled_30 : decode cX4_ifCircled 30 = .ok (.iload_n 2, 1) := by decide +kernel
theorem dX4_ifCircled_31 : decode cX4_ifCircled 31 = .ok (.iadd, 1) := by decide +kernel
theorem dX4_ifCircled_32 : decode cX4_ifCircled 32 = .ok (.istore 4, 2) := by decide +kernel
theorem dX4_ifCircled_34 : decode cX4_ifCircled 34 = .ok (.aload_n 0, 1) := by decide +kernel
theorem dX4_ifCircled_35 : decode cX4_ifCircled 35 = .ok (.getfield 41, 3) := by decide +kernel
theorem dX4_ifCircled_38 : decode cX4_ifCircled 38 = .ok (.aload_n 0, 1) := by decide +kernel
theorem dX4_ifCircled_39 : decode cX4_ifCircled 39 = .ok (.getfield 10, 3) := by decide +kernel
theorem dX4_ifCircled_42 : decode cX4_ifCircled 42 = .ok (.getfield 161, 3) := by decide +kernel
theorem dX4_ifCircled_45 : decode cX4_ifCircled 45 = .ok (.invokevirtual 238, 3) := by decide +kernel
theorem dX4_ifCircled_48 : decode cX4_ifCircled 48 = .ok (.aload_n 0, 1) := by decide +kernel
theorem dX4_ifCircled_49 : decode cX4_ifCircled 49 = .ok (.getfield 41, 3) := by decide +kernel
theorem dX4_ifCircled_52 : decode cX4_ifCircled 52 = .ok (.aload_n 0, 1) := by decide +kernel
theorem dX4_ifCircled_53 : decode cX4_ifCircled 53 = .ok (.getfield 10, 3) := by decide +kernel
theorem dX4_ifCircled_56 : decode cX4_ifCircled 56 = .ok (.iload 4, 2) := by decide +kernel
theorem dX4_ifCircled_58 : decode cX4_ifCircled 58 = .ok (.iload_n 3, 1) := by decide +kernel
theorem dX4_ifCircled_59 : decode cX4_ifCircled 59 = .ok (.invokevirtual 241, 3) := by decide +kernel
theorem dX4_ifCircled_62 : decode cX4_ifCircled 62 = .ok (.ifCond .ne 7, 3) := by decide +kernel
theorem dX4_ifCircled_65 : decode cX4_ifCircled 65 = .ok (.iconst 1, 1) := by decide +kernel
theorem dX4_ifCircled_66 : decode cX4_ifCircled 66 = .ok (.goto 4, 3) := by decide +kernel
theorem dX4_ifCircled_69 : decode cX4_ifCircled 69 = .ok (.iconst 0, 1) := by decide +kernel
theorem dX4_ifCircled_70 : decode cX4_ifCircled 70 = .ok (.istore 5, 2) := by decide +kernel
theorem dX4_ifCircled_72 : decode cX4_ifCircled 72 = .ok (.iload 5, 2) := by decide +kernel
theorem dX4_ifCircled_74 : decode cX4_ifCircled 74 = .ok (.ifCond .eq 7, 3) := by decide +kernel
theorem dX4_ifCircled_77 : decode cX4_ifCircled 77 = .ok (.iconst (-1), 1) := by decide +kernel
theorem dX4_ifCircled_78 : decode cX4_ifCircled 78 = .ok (.goto 19, 3) := by decide +kernel
theorem dX4_ifCircled_81 : decode cX4_ifCircled 81 = .ok (.aload_n 0, 1) := by decide +kernel
theorem dX4_ifCircled_82 : decode cX4_ifCircled 82 = .ok (.getfield 41, 3) := by decide +kernel
theorem dX4_ifCircled_85 : decode cX4_ifCircled 85 = .ok (.aload_n 0, 1) := by decide +kernel
theorem dX4_ifCircled_86 : decode cX4_ifCircled 86 = .ok (.getfield 10, 3) := by decide +kernel
theorem dX4_ifCircled_89 : decode cX4_ifCircled 89 = .ok (.iload 4, 2) := by decide +kernel
theorem dX4_ifCircled_91 : decode cX4_ifCircled 91 = .ok (.invokevirtual 164, 3) := by decide +kernel
theorem dX4_ifCircled_94 : decode cX4_ifCircled 94 = .ok (.bipush 100, 2) := by decide +kernel
theorem dX4_ifCircled_96 : decode cX4_ifCircled 96 = .ok (.iadd, 1) := by decide +kernel
theorem dX4_ifCircled_97 : decode cX4_ifCircled 97 = .ok (.ireturn, 1) := by decide +kernel
theorem dX4_ifForgotten_0 : decode cX4_ifForgotten 0 = .ok (.iload_n 1, 1) := by decide +kernel
theorem dX4_ifForgotten_1 : decode cX4_ifForgotten 1 = .ok (.aload_n 0, 1) := by decide +kernel
theorem dX4_ifForgotten_2 : decode cX4_ifForgotten 2 = .ok (.getfield 10, 3) := by decide +kernel
theorem dX4_ifForgotten_5 : decode cX4_ifForgotten 5 = .ok (.getfield 102, 3) := by decide +kernel
theorem dX4_ifForgotten_8 : decode cX4_ifForgotten 8 = .ok (.invokestatic 79, 3) := by decide +kernel
theorem dX4_ifForgotten_11 : decode cX4_ifForgotten 11 = .ok (.aload_n 0, 1) := by decide +kernel
theorem dX4_ifForgotten_12 : decode cX4_ifForgotten 12 = .ok (.iload_n 1, 1) := by decide +kernel
theorem dX4_ifForgotten_13 : decode cX4_ifForgotten 13 = .ok (.invokevirtual 105, 3) := by decide +kernel
theorem dX4_ifForgotten_16 : decode cX4_ifForgotten 16 = .ok (.ireturn, 1) := by decide +kernel
theorem dX4_mainLesson_0 : decode cX4_mainLesson 0 = .ok (.aload_n 0, 1) := by decide +kernel
theorem dX4_mainLesson_1 : decode cX4_mainLesson 1 = .ok (.invokevirtual 245, 3) := by decide +kernel
theorem dX4_mainLesson_4 : decode cX4_mainLesson 4 = .ok (.aload_n 0, 1) := by decide +kernel
theorem dX4_mainLesson_5 : decode cX4_mainLesson 5 = .ok (.invokevirtual 248, 3) := by decide +kernel
theorem dX4_mainLesson_8 : decode cX4_mainLesson 8 = .ok (.ireturn, 1) := by decide +kernel
theorem dX4_tightShare_0 : decode cX4_tightShare 0 = .ok (.iconst 0, 1) := by decide +kernel
theorem dX4_tightShare_1 : decode cX4_tightShare 1 = .ok (.istore_n 1, 1) := by decide +kernel
theorem dX4_tightShare_2 : decode cX4_tightShare 2 = .ok (.iconst 0, 1) := by decide +kernel
theorem dX4_tightShare_3 : decode cX4_tightShare 3 = .ok (.istore_n 2, 1) := by decide +kernel
theorem dX4_tightShare_4 : decode cX4_tightShare 4 = .ok (.iload_n 2, 1) := by decide +kernel
theorem dX4_tightShare_5 : decode cX4_tightShare 5 = .ok (.bipush 100, 2) := by decide +kernel
theorem dX4_tightShare_7 : decode cX4_tightShare 7 = .ok (.if_icmp .ge 30, 3) := by decide +kernel
theorem dX4_tightShare_10 : decode cX4_tightShare 10 = .ok (.aload_n 0, 1) := by decide +kernel
theorem dX4_tightShare_11 : decode cX4_tightShare 11 = .ok (.getfield 10, 3) := by decide +kernel
theorem dX4_tightShare_14 : decode cX4_tightShare 14 = .ok (.getfield 161, 3) := by decide +kernel
theorem dX4_tightShare_17 : decode cX4_tightShare 17 = .ok (.aload_n 0, 1) := by decide +kernel
theorem dX4_tightShare_18 : decode cX4_tightShare 18 = .ok (.getfield 10, 3) := by decide +kernel
theorem dX4_tightShare_21 : decode cX4_tightShare 21 = .ok (.iload_n 2, 1) := by decide +kernel
theorem dX4_tightShare_22 : decode cX4_tightShare 22 = .ok (.invokevirtual 164, 3) := by decide +kernel
theorem dX4_tightShare_25 : decode cX4_tightShare 25 = .ok (.ifCond .ge 6, 3) := by decide +kernel
theorem dX4_tightShare_28 : decode cX4_tightShare 28 = .ok (.iinc 1 1, 3) := by decide +kernel
theorem dX4_tightShare_31 : decode cX4_tightShare 31 = .ok (.iinc 2 1, 3) := by decide +kernel
theorem dX4_tightShare_34 : decode cX4_tightShare 34 = .ok (.goto (-30), 3) := by decide +kernel
theorem dX4_tightShare_37 : decode cX4_tightShare 37 = .ok (.iload_n 1, 1) := by decide +kernel
theorem dX4_tightShare_38 : decode cX4_tightShare 38 = .ok (.i2d, 1) := by decide +kernel
theorem dX4_tightShare_39 : decode cX4_tightShare 39 = .ok (.ldc2_w 251, 3) := by decide +kernel
theorem dX4_tightShare_42 : decode cX4_tightShare 42 = .ok (.ddiv, 1) := by decide +kernel
theorem dX4_tightShare_43 : decode cX4_tightShare 43 = .ok (.dreturn, 1) := by decide +kernel
theorem dX4_digest_0 : decode cX4_digest 0 = .ok (.aload_n 0, 1) := by decide +kernel
theorem dX4_digest_1 : decode cX4_digest 1 = .ok (.invokevirtual 245, 3) := by decide +kernel
theorem dX4_digest_4 : decode cX4_digest 4 = .ok (.ldc2_w 253, 3) := by decide +kernel
theorem dX4_digest_7 : decode cX4_digest 7 = .ok (.lstore_n 1, 1) := by decide +kernel
theorem dX4_digest_8 : decode cX4_digest 8 = .ok (.aload_n 0, 1) := by decide +kernel
theorem dX4_digest_9 : decode cX4_digest 9 = .ok (.lload_n 1, 1) := by decide +kernel
theorem dX4_digest_10 : decode cX4_digest 10 = .ok (.invokevirtual 255, 3) := by decide +kernel
theorem dX4_digest_13 : decode cX4_digest 13 = .ok (.lstore_n 1, 1) := by decide +kernel
theorem dX4_digest_14 : decode cX4_digest 14 = .ok (.aload_n 0, 1) := by decide +kernel
theorem dX4_digest_15 : decode cX4_digest 15 = .ok (.lload_n 1, 1) := by decide +kernel
theorem dX4_digest_16 : decode cX4_digest 16 = .ok (.invokevirtual 259, 3) := by decide +kernel
theorem dX4_digest_19 : decode cX4_digest 19 = .ok (.lstore_n 1, 1) := by decide +kernel
theorem dX4_digest_20 : decode cX4_digest 20 = .ok (.aload_n 0, 1) := by decide +kernel
theorem dX4_digest_21 : decode cX4_digest 21 = .ok (.lload_n 1, 1) := by decide +kernel
theorem dX4_digest_22 : decode cX4_digest 22 = .ok (.invokevirtual 262, 3) := by decide +kernel
theorem dX4_digest_25 : decode cX4_digest 25 = .ok (.lstore_n 1, 1) := by decide +kernel
theorem dX4_digest_26 : decode cX4_digest 26 = .ok (.aload_n 0, 1) := by decide +kernel
theorem dX4_digest_27 : decode cX4_digest 27 = .ok (.lload_n 1, 1) := by decide +kernel
theorem dX4_digest_28 : decode cX4_digest 28 = .ok (.invokevirtual 265, 3) := by decide +kernel
theorem dX4_digest_31 : decode cX4_digest 31 = .ok (.lstore_n 1, 1) := by decide +kernel
theorem dX4_digest_32 : decode cX4_digest 32 = .ok (.aload_n 0, 1) := by decide +kernel
theorem dX4_digest_33 : decode cX4_digest 33 = .ok (.lload_n 1, 1) := by decide +kernel
theorem dX4_digest_34 : decode cX4_digest 34 = .ok (.invokevirtual 268, 3) := by decide +kernel
theorem dX4_digest_37 : decode cX4_digest 37 = .ok (.lstore_n 1, 1) := by decide +kernel
theorem dX4_digest_38 : decode cX4_digest 38 = .ok (.iconst 0, 1) := by decide +kernel
theorem dX4_digest_39 : decode cX4_digest 39 = .ok (.istore_n 3, 1) := by decide +kernel
theorem dX4_digest_40 : decode cX4_digest 40 = .ok (.iload_n 3, 1) := by decide +kernel
theorem dX4_digest_41 : decode cX4_digest 41 = .ok (.bipush 6, 2) := by decide +kernel
theorem dX4_digest_43 : decode cX4_digest 43 = .ok (.if_icmp .ge 20, 3) := by decide +kernel
theorem dX4_digest_46 : decode cX4_digest 46 = .ok (.lload_n 1, 1) := by decide +kernel
theorem dX4_digest_47 : decode cX4_digest 47 = .ok (.aload_n 0, 1) := by decide +kernel
theorem dX4_digest_48 : decode cX4_digest 48 = .ok (.iload_n 3, 1) := by decide +kernel
theorem dX4_digest_49 : decode cX4_digest 49 = .ok (.invokevirtual 271, 3) := by decide +kernel
theorem dX4_digest_52 : decode cX4_digest 52 = .ok (.i2l, 1) := by decide +kernel
theorem dX4_digest_53 : decode cX4_digest 53 = .ok (.invokestatic 274, 3) := by decide +kernel
theorem dX4_digest_56 : decode cX4_digest 56 = .ok (.lstore_n 1, 1) := by decide +kernel
theorem dX4_digest_57 : decode cX4_digest 57 = .ok (.iinc 3 1, 3) := by decide +kernel
theorem dX4_digest_60 : decode cX4_digest 60 = .ok (.goto (-20), 3) := by decide +kernel
theorem dX4_digest_63 : decode cX4_digest 63 = .ok (.lload_n 1, 1) := by decide +kernel
theorem dX4_digest_64 : decode cX4_digest 64 = .ok (.aload_n 0, 1) := by decide +kernel
theorem dX4_digest_65 : decode cX4_digest 65 = .ok (.invokevirtual 248, 3) := by decide +kernel
theorem dX4_digest_68 : decode cX4_digest 68 = .ok (.i2l, 1) := by decide +kernel
theorem dX4_digest_69 : decode cX4_digest 69 = .ok (.invokestatic 274, 3) := by decide +kernel
theorem dX4_digest_72 : decode cX4_digest 72 = .ok (.lstore_n 1, 1) := by decide +kernel
theorem dX4_digest_73 : decode cX4_digest 73 = .ok (.lload_n 1, 1) := by decide +kernel
theorem dX4_digest_74 : decode cX4_digest 74 = .ok (.aload_n 0, 1) := by decide +kernel
theorem dX4_digest_75 : decode cX4_digest 75 = .ok (.invokevirtual 278, 3) := by decide +kernel
theorem dX4_digest_78 : decode cX4_digest 78 = .ok (.invokestatic 282, 3) := by decide +kernel
theorem dX4_digest_81 : decode cX4_digest 81 = .ok (.invokestatic 274, 3) := by decide +kernel
theorem dX4_digest_84 : decode cX4_digest 84 = .ok (.lstore_n 1, 1) := by decide +kernel
theorem dX4_digest_85 : decode cX4_digest 85 = .ok (.iconst 0, 1) := by decide +kernel
theorem dX4_digest_86 : decode cX4_digest 86 = .ok (.istore_n 3, 1) := by decide +kernel
theorem dX4_digest_87 : decode cX4_digest 87 = .ok (.iload_n 3, 1) := by decide +kernel
theorem dX4_digest_88 : decode cX4_digest 88 = .ok (.iconst 2, 1) := by decide +kernel
theorem dX4_digest_89 : decode cX4_digest 89 = .ok (.if_icmp .ge 28, 3) := by decide +kernel
theorem dX4_digest_92 : decode cX4_digest 92 = .ok (.lload_n 1, 1) := by decide +kernel
theorem dX4_digest_93 : decode cX4_digest 93 = .ok (.aload_n 0, 1) := by decide +kernel
theorem dX4_digest_94 : decode cX4_digest 94 = .ok (.getfield 27, 3) := by decide +kernel
theorem dX4_digest_97 : decode cX4_digest 97 = .ok (.iload_n 3, 1) := by decide +kernel
theorem dX4_digest_98 : decode cX4_digest 98 = .ok (.baload, 1) := by decide +kernel
theorem dX4_digest_99 : decode cX4_digest 99 = .ok (.ifCond .eq 7, 3) := by decide +kernel
theorem dX4_digest_102 : decode cX4_digest 102 = .ok (.lconst 1, 1) := by decide +kernel
theorem dX4_digest_103 : decode cX4_digest 103 = .ok (.goto 4, 3) := by decide +kernel
theorem dX4_digest_106 : decode cX4_digest 106 = .ok (.lconst 0, 1) := by decide +kernel
theorem dX4_digest_107 : decode cX4_digest 107 = .ok (.invokestatic 274, 3) := by decide +kernel
theorem dX4_digest_110 : decode cX4_digest 110 = .ok (.lstore_n 1, 1) := by decide +kernel
theorem dX4_digest_111 : decode cX4_digest 111 = .ok (.iinc 3 1, 3) := by decide +kernel
theorem dX4_digest_114 : decode cX4_digest 114 = .ok (.goto (-27), 3) := by decide +kernel
theorem dX4_digest_117 : decode cX4_digest 117 = .ok (.lload_n 1, 1) := by decide +kernel
theorem dX4_digest_118 : decode cX4_digest 118 = .ok (.aload_n 0, 1) := by decide +kernel
theorem dX4_digest_119 : decode cX4_digest 119 = .ok (.getfield 34, 3) := by decide +kernel
theorem dX4_digest_122 : decode cX4_digest 122 = .ok (.getfield 115, 3) := by decide +kernel
theorem dX4_digest_125 : decode cX4_digest 125 = .ok (.i2l, 1) := by decide +kernel
theorem dX4_digest_126 : decode cX4_digest 126 = .ok (.invokestatic 274, 3) := by decide +kernel
theorem dX4_digest_129 : decode cX4_digest 129 = .ok (.lstore_n 1, 1) := by decide +kernel
theorem dX4_digest_130 : decode cX4_digest 130 = .ok (.iconst 0, 1) := by decide +kernel
theorem dX4_digest_131 : decode cX4_digest 131 = .ok (.istore_n 3, 1) := by decide +kernel
theorem dX4_digest_132 : decode cX4_digest 132 = .ok (.iload_n 3, 1) := by decide +kernel
theorem dX4_digest_133 : decode cX4_digest 133 = .ok (.aload_n 0, 1) := by decide +kernel
theorem dX4_digest_134 : decode cX4_digest 134 = .ok (.getfield 34, 3) := by decide +kernel
theorem dX4_digest_137 : decode cX4_digest 137 = .ok (.getfield 115, 3) := by decide +kernel
theorem dX4_digest_140 : decode cX4_digest 140 = .ok (.if_icmp .ge 24, 3) := by decide +kernel
theorem dX4_digest_143 : decode cX4_digest 143 = .ok (.lload_n 1, 1) := by decide +kernel
theorem dX4_digest_144 : decode cX4_digest 144 = .ok (.aload_n 0, 1) := by decide +kernel
theorem dX4_digest_145 : decode cX4_digest 145 = .ok (.getfield 34, 3) := by decide +kernel
theorem dX4_digest_148 : decode cX4_digest 148 = .ok (.getfield 125, 3) := by decide +kernel
theorem dX4_digest_151 : decode cX4_digest 151 = .ok (.iload_n 3, 1) := by decide +kernel
theorem dX4_digest_152 : decode cX4_digest 152 = .ok (.iaload, 1) := by decide +kernel
theorem dX4_digest_153 : decode cX4_digest 153 = .ok (.i2l, 1) := by decide +kernel
theorem dX4_digest_154 : decode cX4_digest 154 = .ok (.invokestatic 274, 3) := by decide +kernel
theorem dX4_digest_157 : decode cX4_digest 157 = .ok (.lstore_n 1, 1) := by decide +kernel
theorem dX4_digest_158 : decode cX4_digest 158 = .ok (.iinc 3 1, 3) := by decide +kernel
theorem dX4_digest_161 : decode cX4_digest 161 = .ok (.goto (-29), 3) := by decide +kernel
theorem dX4_digest_164 : decode cX4_digest 164 = .ok (.lload_n 1, 1) := by decide +kernel
theorem dX4_digest_165 : decode cX4_digest 165 = .ok (.lreturn, 1) := by decide +kernel
theorem dX4_checkLetter_0 : decode cX4_checkLetter 0 = .ok (.iload_n 0, 1) := by decide +kernel
theorem dX4_checkLetter_1 : decode cX4_checkLetter 1 = .ok (.bipush 10, 2) := by decide +kernel
theorem dX4_checkLetter_3 : decode cX4_checkLetter 3 = .ok (.invokestatic 79, 3) := by decide +kernel
theorem dX4_checkLetter_6 : decode cX4_checkLetter 6 = .ok (.return_, 1) := by decide +kernel
theorem dX4_checkIndex_0 : decode cX4_checkIndex 0 = .ok (.iload_n 0, 1) := by decide +kernel
theorem dX4_checkIndex_1 : decode cX4_checkIndex 1 = .ok (.ifCond .lt 8, 3) := by decide +kernel
theorem dX4_checkIndex_4 : decode cX4_checkIndex 4 = .ok (.iload_n 0, 1) := by decide +kernel
theorem dX4_checkIndex_5 : decode cX4_checkIndex 5 = .ok (.iload_n 1, 1) := by decide +kernel
theorem dX4_checkIndex_6 : decode cX4_checkIndex 6 = .ok (.if_icmp .lt 14, 3) := by decide +kernel
theorem dX4_checkIndex_9 : decode cX4_checkIndex 9 = .ok (.new 142, 3) := by decide +kernel
theorem dX4_checkIndex_12 : decode cX4_checkIndex 12 = .ok (.dup, 1) := by decide +kernel
theorem dX4_checkIndex_13 : decode cX4_checkIndex 13 = .ok (.ldc_w 286, 3) := by decide +kernel
theorem dX4_checkIndex_16 : decode cX4_checkIndex 16 = .ok (.invokespecial 146, 3) := by decide +kernel
theorem dX4_checkIndex_19 : decode cX4_checkIndex 19 = .ok (.athrow, 1) := by decide +kernel
theorem dX4_checkIndex_20 : decode cX4_checkIndex 20 = .ok (.return_, 1) := by decide +kernel
theorem dX4_checkRange_0 : decode cX4_checkRange 0 = .ok (.iload_n 0, 1) := by decide +kernel
theorem dX4_checkRange_1 : decode cX4_checkRange 1 = .ok (.iload_n 1, 1) := by decide +kernel
theorem dX4_checkRange_2 : decode cX4_checkRange 2 = .ok (.if_icmp .lt 8, 3) := by decide +kernel
theorem dX4_checkRange_5 : decode cX4_checkRange 5 = .ok (.iload_n 0, 1) := by decide +kernel
theorem dX4_checkRange_6 : decode cX4_checkRange 6 = .ok (.iload_n 2, 1) := by decide +kernel
theorem dX4_checkRange_7 : decode cX4_checkRange 7 = .ok (.if_icmp .le 14, 3) := by decide +kernel
theorem dX4_checkRange_10 : decode cX4_checkRange 10 = .ok (.new 288, 3) := by decide +kernel
theorem dX4_checkRange_13 : decode cX4_checkRange 13 = .ok (.dup, 1) := by decide +kernel
theorem dX4_checkRange_14 : decode cX4_checkRange 14 = .ok (.ldc_w 290, 3) := by decide +kernel
theorem dX4_checkRange_17 : decode cX4_checkRange 17 = .ok (.invokespecial 292, 3) := by decide +kernel
theorem dX4_checkRange_20 : decode cX4_checkRange 20 = .ok (.athrow, 1) := by decide +kernel
theorem dX4_checkRange_21 : decode cX4_checkRange 21 = .ok (.return_, 1) := by decide +kernel
theorem dX4_checkTold_0 : decode cX4_checkTold 0 = .ok (.iload_n 0, 1) := by decide +kernel
theorem dX4_checkTold_1 : decode cX4_checkTold 1 = .ok (.iconst 1, 1) := by decide +kernel
theorem dX4_checkTold_2 : decode cX4_checkTold 2 = .ok (.if_icmp .eq 19, 3) := by decide +kernel
theorem dX4_checkTold_5 : decode cX4_checkTold 5 = .ok (.iload_n 0, 1) := by decide +kernel
theorem dX4_checkTold_6 : decode cX4_checkTold 6 = .ok (.iconst (-1), 1) := by decide +kernel
theorem dX4_checkTold_7 : decode cX4_checkTold 7 = .ok (.if_icmp .eq 14, 3) := by decide +kernel
theorem dX4_checkTold_10 : decode cX4_checkTold 10 = .ok (.new 288, 3) := by decide +kernel
theorem dX4_checkTold_13 : decode cX4_checkTold 13 = .ok (.dup, 1) := by decide +kernel
theorem dX4_checkTold_14 : decode cX4_checkTold 14 = .ok (.ldc_w 293, 3) := by decide +kernel
theorem dX4_checkTold_17 : decode cX4_checkTold 17 = .ok (.invokespecial 292, 3) := by decide +kernel
theorem dX4_checkTold_20 : decode cX4_checkTold 20 = .ok (.athrow, 1) := by decide +kernel
theorem dX4_checkTold_21 : decode cX4_checkTold 21 = .ok (.return_, 1) := by decide +kernel
theorem dX4_saveState_0 : decode cX4_saveState 0 = .ok (.aload_n 0, 1) := by decide +kernel
theorem dX4_saveState_1 : decode cX4_saveState 1 = .ok (.getfield 20, 3) := by decide +kernel
theorem dX4_saveState_4 : decode cX4_saveState 4 = .ok (.bipush 6, 2) := by decide +kernel
theorem dX4_saveState_6 : decode cX4_saveState 6 = .ok (.if_icmp .lt 50, 3) := by decide +kernel
theorem dX4_saveState_9 : decode cX4_saveState 9 = .ok (.aload_n 0, 1) := by decide +kernel
theorem dX4_saveState_10 : decode cX4_saveState 10 = .ok (.getfield 16, 3) := by decide +kernel
theorem dX4_saveState_13 : decode cX4_saveState 13 = .ok (.iconst 0, 1) := by decide +kernel
theorem dX4_saveState_14 : decode cX4_saveState 14 = .ok (.aaload, 1) := by decide +kernel
theorem dX4_saveState_15 : decode cX4_saveState 15 = .ok (.astore_n 1, 1) := by decide +kernel
theorem dX4_saveState_16 : decode cX4_saveState 16 = .ok (.iconst 1, 1) := by decide +kernel
theorem dX4_saveState_17 : decode cX4_saveState 17 = .ok (.istore_n 2, 1) := by decide +kernel
theorem dX4_saveState_18 : decode cX4_saveState 18 = .ok (.iload_n 2, 1) := by decide +kernel
theorem dX4_saveState_19 : decode cX4_saveState 19 = .ok (.bipush 6, 2) := by decide +kernel
theorem dX4_saveState_21 : decode cX4_saveState 21 = .ok (.if_icmp .ge 23, 3) := by decide +kernel
theorem dX4_saveState_24 : decode cX4_saveState 24 = .ok (.aload_n 0, 1) := by decide +kernel
theorem dX4_saveState_25 : decode cX4_saveState 25 = .ok (.getfield 16, 3) := by decide +kernel
theorem dX4_saveState_28 : decode cX4_saveState 28 = .ok (.iload_n 2, 1) := by decide +kernel
theorem dX4_saveState_29 : decode cX4_saveState 29 = .ok (.iconst 1, 1) := by decide +kernel
theorem dX4_saveState_30 : decode cX4_saveState 30 = .ok (.isub, 1) := by decide +kernel
theorem dX4_saveState_31 : decode cX4_saveState 31 = .ok (.aload_n 0, 1) := by decide +kernel
theorem dX4_saveState_32 : decode cX4_saveState 32 = .ok (.getfield 16, 3) := by decide +kernel
theorem dX4_saveState_35 : decode cX4_saveState 35 = .ok (.iload_n 2, 1) := by decide +kernel
theorem dX4_saveState_36 : decode cX4_saveState 36 = .ok (.aaload, 1) := by decide +kernel
theorem dX4_saveState_37 : decode cX4_saveState 37 = .ok (.aastore, 1) := by decide +kernel
theorem dX4_saveState_38 : decode cX4_saveState 38 = .ok (.iinc 2 1, 3) := by decide +kernel
theorem dX4_saveState_41 : decode cX4_saveState 41 = .ok (.goto (-23), 3) := by decide +kernel
theorem dX4_saveState_44 : decode cX4_saveState 44 = .ok (.aload_n 0, 1) := by decide +kernel
theorem dX4_saveState_45 : decode cX4_saveState 45 = .ok (.getfield 16, 3) := by decide +kernel
theorem dX4_saveState_48 : decode cX4_saveState 48 = .ok (.iconst 5, 1) := by decide +kernel
theorem dX4_saveState_49 : decode cX4_saveState 49 = .ok (.aload_n 1, 1) := by decide +kernel
theorem dX4_saveState_50 : decode cX4_saveState 50 = .ok (.aastore, 1) := by decide +kernel
theorem dX4_saveState_51 : decode cX4_saveState 51 = .ok (.aload_n 0, 1) := by decide +kernel
theorem dX4_saveState_52 : decode cX4_saveState 52 = .ok (.iconst 5, 1) := by decide +kernel
theorem dX4_saveState_53 : decode cX4_saveState 53 = .ok (.putfield 20, 3) := by decide +kernel
theorem dX4_saveState_56 : decode cX4_saveState 56 = .ok (.aload_n 0, 1) := by decide +kernel
theorem dX4_saveState_57 : decode cX4_saveState 57 = .ok (.getfield 16, 3) := by decide +kernel
theorem dX4_saveState_60 : decode cX4_saveState 60 = .ok (.aload_n 0, 1) := by decide +kernel
theorem dX4_saveState_61 : decode cX4_saveState 61 = .ok (.getfield 20, 3) := by decide +kernel
theorem dX4_saveState_64 : decode cX4_saveState 64 = .ok (.aaload, 1) := by decide +kernel
theorem dX4_saveState_65 : decode cX4_saveState 65 = .ok (.aload_n 0, 1) := by decide +kernel
theorem dX4_saveState_66 : decode cX4_saveState 66 = .ok (.getfield 10, 3) := by decide +kernel
theorem dX4_saveState_69 : decode cX4_saveState 69 = .ok (.invokevirtual 150, 3) := by decide +kernel
theorem dX4_saveState_72 : decode cX4_saveState 72 = .ok (.aload_n 0, 1) := by decide +kernel
theorem dX4_saveState_73 : decode cX4_saveState 73 = .ok (.dup, 1) := by decide +kernel
theorem dX4_saveState_74 : decode cX4_saveState 74 = .ok (.getfield 20, 3) := by decide +kernel
theorem dX4_saveState_77 : decode cX4_saveState 77 = .ok (.iconst 1, 1) := by decide +kernel
theorem dX4_saveState_78 : decode cX4_saveState 78 = .ok (.iadd, 1) := by decide +kernel
theorem dX4_saveState_79 : decode cX4_saveState 79 = .ok (.putfield 20, 3) := by decide +kernel
theorem dX4_saveState_82 : decode cX4_saveState 82 = .ok (.return_, 1) := by decide +kernel
theorem dX4_learnCircle_0 : decode cX4_learnCircle 0 = .ok (.aload_n 0, 1) := by decide +kernel
theorem dX4_learnCircle_1 : decode cX4_learnCircle 1 = .ok (.invokevirtual 64, 3) := by decide +kernel
theorem dX4_learnCircle_4 : decode cX4_learnCircle 4 = .ok (.aload_n 0, 1) := by decide +kernel
theorem dX4_learnCircle_5 : decode cX4_learnCircle 5 = .ok (.getfield 10, 3) := by decide +kernel
theorem dX4_learnCircle_8 : decode cX4_learnCircle 8 = .ok (.getfield 102, 3) := by decide +kernel
theorem dX4_learnCircle_11 : decode cX4_learnCircle 11 = .ok (.bipush 40, 2) := by decide +kernel
theorem dX4_learnCircle_13 : decode cX4_learnCircle 13 = .ok (.if_icmp .ge 22, 3) := by decide +kernel
theorem dX4_learnCircle_16 : decode cX4_learnCircle 16 = .ok (.aload_n 0, 1) := by decide +kernel
theorem dX4_learnCircle_17 : decode cX4_learnCircle 17 = .ok (.getfield 10, 3) := by decide +kernel
theorem dX4_learnCircle_20 : decode cX4_learnCircle 20 = .ok (.getfield 161, 3) := by decide +kernel
theorem dX4_learnCircle_23 : decode cX4_learnCircle 23 = .ok (.aload_n 0, 1) := by decide +kernel
theorem dX4_learnCircle_24 : decode cX4_learnCircle 24 = .ok (.getfield 10, 3) := by decide +kernel
theorem dX4_learnCircle_27 : decode cX4_learnCircle 27 = .ok (.iload_n 1, 1) := by decide +kernel
theorem dX4_learnCircle_28 : decode cX4_learnCircle 28 = .ok (.iload_n 2, 1) := by decide +kernel
theorem dX4_learnCircle_29 : decode cX4_learnCircle 29 = .ok (.invokevirtual 241, 3) := by decide +kernel
theorem dX4_learnCircle_32 : decode cX4_learnCircle 32 = .ok (.ifCond .ne 18, 3) := by decide +kernel
theorem dX4_learnCircle_35 : decode cX4_learnCircle 35 = .ok (.aload_n 0, 1) := by decide +kernel
theorem dX4_learnCircle_36 : decode cX4_learnCircle 36 = .ok (.getfield 10, 3) := by decide +kernel
theorem dX4_learnCircle_39 : decode cX4_learnCircle 39 = .ok (.dup, 1) := by decide +kernel
theorem dX4_learnCircle_40 : decode cX4_learnCircle 40 = .ok (.getfield 208, 3) := by decide +kernel
theorem dX4_learnCircle_43 : decode cX4_learnCircle 43 = .ok (.iconst 1, 1) := by decide +kernel
theorem dX4_learnCircle_44 : decode cX4_learnCircle 44 = .ok (.iadd, 1) := by decide +kernel
theorem dX4_learnCircle_45 : decode cX4_learnCircle 45 = .ok (.putfield 208, 3) := by decide +kernel
theorem dX4_learnCircle_48 : decode cX4_learnCircle 48 = .ok (.iconst (-1), 1) := by decide +kernel
theorem dX4_learnCircle_49 : decode cX4_learnCircle 49 = .ok (.ireturn, 1) := by decide +kernel
theorem dX4_learnCircle_50 : decode cX4_learnCircle 50 = .ok (.aload_n 0, 1) := by decide +kernel
theorem dX4_learnCircle_51 : decode cX4_learnCircle 51 = .ok (.getfield 10, 3) := by decide +kernel
theorem dX4_learnCircle_54 : decode cX4_learnCircle 54 = .ok (.iload_n 1, 1) := by decide +kernel
theorem dX4_learnCircle_55 : decode cX4_learnCircle 55 = .ok (.iload_n 2, 1) := by decide +kernel
theorem dX4_learnCircle_56 : decode cX4_learnCircle 56 = .ok (.invokevirtual 295, 3) := by decide +kernel
theorem dX4_learnCircle_59 : decode cX4_learnCircle 59 = .ok (.aload_n 0, 1) := by decide +kernel
theorem dX4_learnCircle_60 : decode cX4_learnCircle 60 = .ok (.getfield 10, 3) := by decide +kernel
theorem dX4_learnCircle_63 : decode cX4_learnCircle 63 = .ok (.getfield 161, 3) := by decide +kernel
theorem dX4_learnCircle_66 : decode cX4_learnCircle 66 = .ok (.aload_n 0, 1) := by decide +kernel
theorem dX4_learnCircle_67 : decode cX4_learnCircle 67 = .ok (.getfield 10, 3) := by decide +kernel
theorem dX4_learnCircle_70 : decode cX4_learnCircle 70 = .ok (.iload_n 1, 1) := by decide +kernel
theorem dX4_learnCircle_71 : decode cX4_learnCircle 71 = .ok (.invokevirtual 164, 3) := by decide +kernel
theorem dX4_learnCircle_74 : decode cX4_learnCircle 74 = .ok (.bipush 100, 2) := by decide +kernel
theorem dX4_learnCircle_76 : decode cX4_learnCircle 76 = .ok (.iadd, 1) := by decide +kernel
theorem dX4_learnCircle_77 : decode cX4_learnCircle 77 = .ok (.ireturn, 1) := by decide +kernel
theorem dX4_pairsOtherwiseWithout_0 : decode cX4_pairsOtherwiseWithout 0 = .ok (.aload_n 0, 1) := by decide +kernel
theorem dX4_pairsOtherwiseWithout_1 : decode cX4_pairsOtherwiseWithout 1 = .ok (.getfield 41, 3) := by decide +kernel
theorem dX4_pairsOtherwiseWithout_4 : decode cX4_pairsOtherwiseWithout 4 = .ok (.aload_n 0, 1) := by decide +kernel
theorem dX4_pairsOtherwiseWithout_5 : decode cX4_pairsOtherwiseWithout 5 = .ok (.getfield 10, 3) := by decide +kernel
theorem dX4_pairsOtherwiseWithout_8 : decode cX4_pairsOtherwiseWithout 8 = .ok (.iload_n 1, 1) := by decide +kernel
theorem dX4_pairsOtherwiseWithout_9 : decode cX4_pairsOtherwiseWithout 9 = .ok (.invokevirtual 168, 3) := by decide +kernel
theorem dX4_pairsOtherwiseWithout_12 : decode cX4_pairsOtherwiseWithout 12 = .ok (.iconst 0, 1) := by decide +kernel
theorem dX4_pairsOtherwiseWithout_13 : decode cX4_pairsOtherwiseWithout 13 = .ok (.istore_n 2, 1) := by decide +kernel
theorem dX4_pairsOtherwiseWithout_14 : decode cX4_pairsOtherwiseWithout 14 = .ok (.iconst 0, 1) := by decide +kernel
theorem dX4_pairsOtherwiseWithout_15 : decode cX4_pairsOtherwiseWithout 15 = .ok (.istore_n 3, 1) := by decide +kernel
theorem dX4_pairsOtherwiseWithout_16 : decode cX4_pairsOtherwiseWithout 16 = .ok (.iload_n 3, 1) := by decide +kernel
theorem dX4_pairsOtherwiseWithout_17 : decode cX4_pairsOtherwiseWithout 17 = .ok (.bipush 100, 2) := by decide +kernel
theorem dX4_pairsOtherwiseWithout_19 : decode cX4_pairsOtherwiseWithout 19 = .ok (.if_icmp .ge 42, 3) := by decide +kernel
theorem dX4_pairsOtherwiseWithout_22 : decode cX4_pairsOtherwiseWithout 22 = .ok (.aload_n 0, 1) := by decide +kernel
theorem dX4_pairsOtherwiseWithout_23 : decode cX4_pairsOtherwiseWithout 23 = .ok (.getfield 41, 3) := by decide +kernel
theorem dX4_pairsOtherwiseWithout_26 : decode cX4_pairsOtherwiseWithout 26 = .ok (.aload_n 0, 1) := by decide +kernel
theorem dX4_pairsOtherwiseWithout_27 : decode cX4_pairsOtherwiseWithout 27 = .ok (.getfield 10, 3) := by decide +kernel
theorem dX4_pairsOtherwiseWithout_30 : decode cX4_pairsOtherwiseWithout 30 = .ok (.iload_n 3, 1) := by decide +kernel
theorem dX4_pairsOtherwiseWithout_31 : decode cX4_pairsOtherwiseWithout 31 = .ok (.invokevirtual 164, 3) := by decide +kernel
theorem dX4_pairsOtherwiseWithout_34 : decode cX4_pairsOtherwiseWithout 34 = .ok (.aload_n 0, 1) := by decide +kernel
theorem dX4_pairsOtherwiseWithout_35 : decode cX4_pairsOtherwiseWithout 35 = .ok (.getfield 10, 3) := by decide +kernel
theorem dX4_pairsOtherwiseWithout_38 : decode cX4_pairsOtherwiseWithout 38 = .ok (.getfield 161, 3) := by decide +kernel
theorem dX4_pairsOtherwiseWithout_41 : decode cX4_pairsOtherwiseWithout 41 = .ok (.aload_n 0, 1) := by decide +kernel
theorem dX4_pairsOtherwiseWithout_42 : decode cX4_pairsOtherwiseWithout 42 = .ok (.getfield 10, 3) := by decide +kernel
theorem dX4_pairsOtherwiseWithout_45 : decode cX4_pairsOtherwiseWithout 45 = .ok (.iload_n 3, 1) := by decide +kernel
theorem dX4_pairsOtherwiseWithout_46 : decode cX4_pairsOtherwiseWithout 46 = .ok (.invokevirtual 164, 3) := by decide +kernel
theorem dX4_pairsOtherwiseWithout_49 : decode cX4_pairsOtherwiseWithout 49 = .ok (.if_icmp .eq 6, 3) := by decide +kernel
theorem dX4_pairsOtherwiseWithout_52 : decode cX4_pairsOtherwiseWithout 52 = .ok (.iinc 2 1, 3) := by decide +kernel
theorem dX4_pairsOtherwiseWithout_55 : decode cX4_pairsOtherwiseWithout 55 = .ok (.iinc 3 1, 3) := by decide +kernel
theorem dX4_pairsOtherwiseWithout_58 : decode cX4_pairsOtherwiseWithout 58 = .ok (.goto (-42), 3) := by decide +kernel
theorem dX4_pairsOtherwiseWithout_61 : decode cX4_pairsOtherwiseWithout 61 = .ok (.iload_n 2, 1) := by decide +kernel
theorem dX4_pairsOtherwiseWithout_62 : decode cX4_pairsOtherwiseWithout 62 = .ok (.ireturn, 1) := by decide +kernel
theorem dX4_findPairsOtherwise_0 : decode cX4_findPairsOtherwise 0 = .ok (.iconst 0, 1) := by decide +kernel
theorem dX4_findPairsOtherwise_1 : decode cX4_findPairsOtherwise 1 = .ok (.istore_n 1, 1) := by decide +kernel
theorem dX4_findPairsOtherwise_2 : decode cX4_findPairsOtherwise 2 = .ok (.iload_n 1, 1) := by decide +kernel
theorem dX4_findPairsOtherwise_3 : decode cX4_findPairsOtherwise 3 = .ok (.aload_n 0, 1) := by decide +kernel
theorem dX4_findPairsOtherwise_4 : decode cX4_findPairsOtherwise 4 = .ok (.getfield 10, 3) := by decide +kernel
theorem dX4_findPairsOtherwise_7 : decode cX4_findPairsOtherwise 7 = .ok (.getfield 102, 3) := by decide +kernel
theorem dX4_findPairsOtherwise_10 : decode cX4_findPairsOtherwise 10 = .ok (.if_icmp .ge 20, 3) := by decide +kernel
theorem dX4_findPairsOtherwise_13 : decode cX4_findPairsOtherwise 13 = .ok (.aload_n 0, 1) := by decide +kernel
theorem dX4_findPairsOtherwise_14 : decode cX4_findPairsOtherwise 14 = .ok (.getfield 45, 3) := by decide +kernel
theorem dX4_findPairsOtherwise_17 : decode cX4_findPairsOtherwise 17 = .ok (.iload_n 1, 1) := by decide +kernel
theorem dX4_findPairsOtherwise_18 : decode cX4_findPairsOtherwise 18 = .ok (.aload_n 0, 1) := by decide +kernel
theorem dX4_findPairsOtherwise_19 : decode cX4_findPairsOtherwise 19 = .ok (.iload_n 1, 1) := by decide +kernel
theorem dX4_findPairsOtherwise_20 : decode cX4_findPairsOtherwise 20 = .ok (.invokevirtual 105, 3) := by decide +kernel
theorem dX4_findPairsOtherwise_23 : decode cX4_findPairsOtherwise 23 = .ok (.iastore, 1) := by decide +kernel
theorem dX4_findPairsOtherwise_24 : decode cX4_findPairsOtherwise 24 = .ok (.iinc 1 1, 3) := by decide +kernel
theorem dX4_findPairsOtherwise_27 : decode cX4_findPairsOtherwise 27 = .ok (.goto (-25), 3) := by decide +kernel
theorem dX4_findPairsOtherwise_30 : decode cX4_findPairsOtherwise 30 = .ok (.return_, 1) := by decide +kernel
theorem dX4_lessonWithMostOtherwise_0 : decode cX4_lessonWithMostOtherwise 0 = .ok (.iconst (-1), 1) := by decide +kernel
theorem dX4_lessonWithMostOtherwise_1 : decode cX4_lessonWithMostOtherwise 1 = .ok (.istore_n 1, 1) := by decide +kernel
theorem dX4_lessonWithMostOtherwise_2 : decode cX4_lessonWithMostOtherwise 2 = .ok (.iconst (-1), 1) := by decide +kernel
theorem dX4_lessonWithMostOtherwise_3 : decode cX4_lessonWithMostOtherwise 3 = .ok (.istore_n 2, 1) := by decide +kernel
theorem dX4_lessonWithMostOtherwise_4 : decode cX4_lessonWithMostOtherwise 4 = .ok (.iconst 0, 1) := by decide +kernel
theorem dX4_lessonWithMostOtherwise_5 : decode cX4_lessonWithMostOtherwise 5 = .ok (.istore_n 3, 1) := by decide +kernel
theorem dX4_lessonWithMostOtherwise_6 : decode cX4_lessonWithMostOtherwise 6 = .ok (.iload_n 3, 1) := by decide +kernel
theorem dX4_lessonWithMostOtherwise_7 : decode cX4_lessonWithMostOtherwise 7 = .ok (.aload_n 0, 1) := by decide +kernel
theorem dX4_lessonWithMostOtherwise_8 : decode cX4_lessonWithMostOtherwise 8 = .ok (.getfield 10, 3) := by decide +kernel
theorem dX4_lessonWithMostOtherwise_11 : decode cX4_lessonWithMostOtherwise 11 = .ok (.getfield 102, 3) := by decide +kernel
theorem dX4_lessonWithMostOtherwise_14 : decode cX4_lessonWithMostOtherwise 14 = .ok (.if_icmp .ge 28, 3) := by decide +kernel
theorem dX4_lessonWithMostOtherwise_17 : decode cX4_lessonWithMostOtherwise 17 = .ok (.aload_n 0, 1) := by decide +kernel
theorem dX4_lessonWithMostOtherwise_18 : decode cX4_lessonWithMostOtherwise 18 = .ok (.getfield 45, 3) := by decide +kernel
theorem dX4_lessonWithMostOtherwise_21 : decode cX4_lessonWithMostOtherwise 21 = .ok (.iload_n 3, 1) := by decide +kernel
theorem dX4_lessonWithMostOtherwise_22 : decode cX4_lessonWithMostOtherwise 22 = .ok (.iaload, 1) := by decide +kernel
theorem dX4_lessonWithMostOtherwise_23 : decode cX4_lessonWithMostOtherwise 23 = .ok (.iload_n 2, 1) := by decide +kernel
theorem dX4_lessonWithMostOtherwise_24 : decode cX4_lessonWithMostOtherwise 24 = .ok (.if_icmp .le 12, 3) := by decide +kernel
theorem dX4_lessonWithMostOtherwise_27 : decode cX4_lessonWithMostOtherwise 27 = .ok (.aload_n 0, 1) := by decide +kernel
theorem dX4_lessonWithMostOtherwise_28 : decode cX4_lessonWithMostOtherwise 28 = .ok (.getfield 45, 3) := by decide +kernel
theorem dX4_lessonWithMostOtherwise_31 : decode cX4_lessonWithMostOtherwise 31 = .ok (.iload_n 3, 1) := by decide +kernel
theorem dX4_lessonWithMostOtherwise_32 : decode cX4_lessonWithMostOtherwise 32 = .ok (.iaload, 1) := by decide +kernel
theorem dX4_lessonWithMostOtherwise_33 : decode cX4_lessonWithMostOtherwise 33 = .ok (.istore_n 2, 1) := by decide +kernel
theorem dX4_lessonWithMostOtherwise_34 : decode cX4_lessonWithMostOtherwise 34 = .ok (.iload_n 3, 1) := by decide +kernel
theorem dX4_lessonWithMostOtherwise_35 : decode cX4_lessonWithMostOtherwise 35 = .ok (.istore_n 1, 1) := by decide +kernel
theorem dX4_lessonWithMostOtherwise_36 : decode cX4_lessonWithMostOtherwise 36 = .ok (.iinc 3 1, 3) := by decide +kernel
theorem dX4_lessonWithMostOtherwise_39 : decode cX4_lessonWithMostOtherwise 39 = .ok (.goto (-33), 3) := by decide +kernel
theorem dX4_lessonWithMostOtherwise_42 : decode cX4_lessonWithMostOtherwise 42 = .ok (.iload_n 1, 1) := by decide +kernel
theorem dX4_lessonWithMostOtherwise_43 : decode cX4_lessonWithMostOtherwise 43 = .ok (.ireturn, 1) := by decide +kernel
theorem dX4_hashWith_0 : decode cX4_hashWith 0 = .ok (.ldc2_w 298, 3) := by decide +kernel
theorem dX4_hashWith_3 : decode cX4_hashWith 3 = .ok (.lload_n 0, 1) := by decide +kernel
theorem dX4_hashWith_4 : decode cX4_hashWith 4 = .ok (.lmul, 1) := by decide +kernel
theorem dX4_hashWith_5 : decode cX4_hashWith 5 = .ok (.lload_n 2, 1) := by decide +kernel
theorem dX4_hashWith_6 : decode cX4_hashWith 6 = .ok (.ladd, 1) := by decide +kernel
theorem dX4_hashWith_7 : decode cX4_hashWith 7 = .ok (.lreturn, 1) := by decide +kernel
theorem dX4_hashCountsAndSettings_0 : decode cX4_hashCountsAndSettings 0 = .ok (.lload_n 1, 1) := by decide +kernel
theorem dX4_hashCountsAndSettings_1 : decode cX4_hashCountsAndSettings 1 = .ok (.lstore_n 3, 1) := by decide +kernel
theorem dX4_hashCountsAndSettings_2 : decode cX4_hashCountsAndSettings 2 = .ok (.iconst 0, 1) := by decide +kernel
theorem dX4_hashCountsAndSettings_3 : decode cX4_hashCountsAndSettings 3 = .ok (.istore 5, 2) := by decide +kernel
theorem dX4_hashCountsAndSettings_5 : decode cX4_hashCountsAndSettings 5 = .ok (.iload 5, 2) := by decide +kernel
theorem dX4_hashCountsAndSettings_7 : decode cX4_hashCountsAndSettings 7 = .ok (.bipush 8, 2) := by decide +kernel
theorem dX4_hashCountsAndSettings_9 : decode cX4_hashCountsAndSettings 9 = .ok (.if_icmp .ge 21, 3) := by decide +kernel
theorem dX4_hashCountsAndSettings_12 : decode cX4_hashCountsAndSettings 12 = .ok (.lload_n 3, 1) := by decide +kernel
theorem dX4_hashCountsAndSettings_13 : decode cX4_hashCountsAndSettings 13 = .ok (.aload_n 0, 1) := by decide +kernel
theorem dX4_hashCountsAndSettings_14 : decode cX4_hashCountsAndSettings 14 = .ok (.iload 5, 2) := by decide +kernel
theorem dX4_hashCountsAndSettings_16 : decode cX4_hashCountsAndSettings 16 = .ok (.invokevirtual 300, 3) := by decide +kernel
theorem dX4_hashCountsAndSettings_19 : decode cX4_hashCountsAndSettings 19 = .ok (.i2l, 1) := by decide +kernel
theorem dX4_hashCountsAndSettings_20 : decode cX4_hashCountsAndSettings 20 = .ok (.invokestatic 274, 3) := by decide +kernel
theorem dX4_hashCountsAndSettings_23 : decode cX4_hashCountsAndSettings 23 = .ok (.lstore_n 3, 1) := by decide +kernel
theorem dX4_hashCountsAndSettings_24 : decode cX4_hashCountsAndSettings 24 = .ok (.iinc 5 1, 3) := by decide +kernel
theorem dX4_hashCountsAndSettings_27 : decode cX4_hashCountsAndSettings 27 = .ok (.goto (-22), 3) := by decide +kernel
theorem dX4_hashCountsAndSettings_30 : decode cX4_hashCountsAndSettings 30 = .ok (.iconst 0, 1) := by decide +kernel
theorem dX4_hashCountsAndSettings_31 : decode cX4_hashCountsAndSettings 31 = .ok (.istore 5, 2) := by decide +kernel
theorem dX4_hashCountsAndSettings_33 : decode cX4_hashCountsAndSettings 33 = .ok (.iload 5, 2) := by decide +kernel
theorem dX4_hashCountsAndSettings_35 : decode cX4_hashCountsAndSettings 35 = .ok (.iconst 4, 1) := by decide +kernel
theorem dX4_hashCountsAndSettings_36 : decode cX4_hashCountsAndSettings 36 = .ok (.if_icmp .ge 25, 3) := by decide +kernel
theorem dX4_hashCountsAndSettings_39 : decode cX4_hashCountsAndSettings 39 = .ok (.lload_n 3, 1) := by decide +kernel
theorem dX4_hashCountsAndSettings_40 : decode cX4_hashCountsAndSettings 40 = .ok (.aload_n 0, 1) := by decide +kernel
theorem dX4_hashCountsAndSettings_41 : decode cX4_hashCountsAndSettings 41 = .ok (.getfield 10, 3) := by decide +kernel
theorem dX4_hashCountsAndSettings_44 : decode cX4_hashCountsAndSettings 44 = .ok (.getfield 92, 3) := by decide +kernel
theorem dX4_hashCountsAndSettings_47 : decode cX4_hashCountsAndSettings 47 = .ok (.iload 5, 2) := by decide +kernel
theorem dX4_hashCountsAndSettings_49 : decode cX4_hashCountsAndSettings 49 = .ok (.iaload, 1) := by decide +kernel
theorem dX4_hashCountsAndSettings_50 : decode cX4_hashCountsAndSettings 50 = .ok (.i2l, 1) := by decide +kernel
theorem dX4_hashCountsAndSettings_51 : decode cX4_hashCountsAndSettings 51 = .ok (.invokestatic 274, 3) := by decide +kernel
theorem dX4_hashCountsAndSettings_54 : decode cX4_hashCountsAndSettings 54 = .ok (.lstore_n 3, 1) := by decide +kernel
theorem dX4_hashCountsAndSettings_55 : decode cX4_hashCountsAndSettings 55 = .ok (.iinc 5 1, 3) := by decide +kernel
theorem dX4_hashCountsAndSettings_58 : decode cX4_hashCountsAndSettings 58 = .ok (.goto (-25), 3) := by decide +kernel
theorem dX4_hashCountsAndSettings_61 : decode cX4_hashCountsAndSettings 61 = .ok (.lload_n 3, 1) := by decide +kernel
theorem dX4_hashCountsAndSettings_62 : decode cX4_hashCountsAndSettings 62 = .ok (.lreturn, 1) := by decide +kernel
theorem dX4_hashLetters_0 : decode cX4_hashLetters 0 = .ok (.lload_n 1, 1) := by decide +kernel
theorem dX4_hashLetters_1 : decode cX4_hashLetters 1 = .ok (.lstore_n 3, 1) := by decide +kernel
theorem dX4_hashLetters_2 : decode cX4_hashLetters 2 = .ok (.iconst 0, 1) := by decide +kernel
theorem dX4_hashLetters_3 : decode cX4_hashLetters 3 = .ok (.istore 5, 2) := by decide +kernel
theorem dX4_hashLetters_5 : decode cX4_hashLetters 5 = .ok (.iload 5, 2) := by decide +kernel
theorem dX4_hashLetters_7 : decode cX4_hashLetters 7 = .ok (.bipush 10, 2) := by decide +kernel
theorem dX4_hashLetters_9 : decode cX4_hashLetters 9 = .ok (.if_icmp .ge 38, 3) := by decide +kernel
theorem dX4_hashLetters_12 : decode cX4_hashLetters 12 = .ok (.iconst 0, 1) := by decide +kernel
theorem dX4_hashLetters_13 : decode cX4_hashLetters 13 = .ok (.istore 6, 2) := by decide +kernel
theorem dX4_hashLetters_15 : decode cX4_hashLetters 15 = .ok (.iload 6, 2) := by decide +kernel
theorem dX4_hashLetters_17 : decode cX4_hashLetters 17 = .ok (.iconst 4, 1) := by decide +kernel
theorem dX4_hashLetters_18 : decode cX4_hashLetters 18 = .ok (.if_icmp .ge 23, 3) := by decide +kernel
theorem dX4_hashLetters_21 : decode cX4_hashLetters 21 = .ok (.lload_n 3, 1) := by decide +kernel
theorem dX4_hashLetters_22 : decode cX4_hashLetters 22 = .ok (.aload_n 0, 1) := by decide +kernel
theorem dX4_hashLetters_23 : decode cX4_hashLetters 23 = .ok (.iload 5, 2) := by decide +kernel
theorem dX4_hashLetters_25 : decode cX4_hashLetters 25 = .ok (.iload 6, 2) := by decide +kernel
theorem dX4_hashLetters_27 : decode cX4_hashLetters 27 = .ok (.invokevirtual 303, 3) := by decide +kernel
theorem dX4_hashLetters_30 : decode cX4_hashLetters 30 = .ok (.i2l, 1) := by decide +kernel
theorem dX4_hashLetters_31 : decode cX4_hashLetters 31 = .ok (.invokestatic 274, 3) := by decide +kernel
theorem dX4_hashLetters_34 : decode cX4_hashLetters 34 = .ok (.lstore_n 3, 1) := by decide +kernel
theorem dX4_hashLetters_35 : decode cX4_hashLetters 35 = .ok (.iinc 6 1, 3) := by decide +kernel
theorem dX4_hashLetters_38 : decode cX4_hashLetters 38 = .ok (.goto (-23), 3) := by decide +kernel
theorem dX4_hashLetters_41 : decode cX4_hashLetters 41 = .ok (.iinc 5 1, 3) := by decide +kernel
theorem dX4_hashLetters_44 : decode cX4_hashLetters 44 = .ok (.goto (-39), 3) := by decide +kernel
theorem dX4_hashLetters_47 : decode cX4_hashLetters 47 = .ok (.lload_n 3, 1) := by decide +kernel
theorem dX4_hashLetters_48 : decode cX4_hashLetters 48 = .ok (.lreturn, 1) := by decide +kernel
theorem dX4_hashPairs_0 : decode cX4_hashPairs 0 = .ok (.lload_n 1, 1) := by decide +kernel
theorem dX4_hashPairs_1 : decode cX4_hashPairs 1 = .ok (.lstore_n 3, 1) := by decide +kernel
theorem dX4_hashPairs_2 : decode cX4_hashPairs 2 = .ok (.iconst 0, 1) := by decide +kernel
theorem dX4_hashPairs_3 : decode cX4_hashPairs 3 = .ok (.istore 5, 2) := by decide +kernel
theorem dX4_hashPairs_5 : decode cX4_hashPairs 5 = .ok (.iload 5, 2) := by decide +kernel
theorem dX4_hashPairs_7 : decode cX4_hashPairs 7 = .ok (.bipush 10, 2) := by decide +kernel
theorem dX4_hashPairs_9 : decode cX4_hashPairs 9 = .ok (.if_icmp .ge 85, 3) := by decide +kernel
theorem dX4_hashPairs_12 : decode cX4_hashPairs 12 = .ok (.iconst 0, 1) := by decide +kernel
theorem dX4_hashPairs_13 : decode cX4_hashPairs 13 = .ok (.istore 6, 2) := by decide +kernel
theorem dX4_hashPairs_15 : decode cX4_hashPairs 15 = .ok (.iload 6, 2) := by decide +kernel
theorem dX4_hashPairs_17 : decode cX4_hashPairs 17 = .ok (.bipush 10, 2) := by decide +kernel
theorem dX4_hashPairs_19 : decode cX4_hashPairs 19 = .ok (.if_icmp .ge 69, 3) := by decide +kernel
theorem dX4_hashPairs_22 : decode cX4_hashPairs 22 = .ok (.lload_n 3, 1) := by decide +kernel
theorem dX4_hashPairs_23 : decode cX4_hashPairs 23 = .ok (.aload_n 0, 1) := by decide +kernel
theorem dX4_hashPairs_24 : decode cX4_hashPairs 24 = .ok (.iload 5, 2) := by decide +kernel
theorem dX4_hashPairs_26 : decode cX4_hashPairs 26 = .ok (.iload 6, 2) := by decide +kernel
theorem dX4_hashPairs_28 : decode cX4_hashPairs 28 = .ok (.iconst 0, 1) := by decide +kernel
theorem dX4_hashPairs_29 : decode cX4_hashPairs 29 = .ok (.invokevirtual 306, 3) := by decide +kernel
theorem dX4_hashPairs_32 : decode cX4_hashPairs 32 = .ok (.i2l, 1) := by decide +kernel
theorem dX4_hashPairs_33 : decode cX4_hashPairs 33 = .ok (.invokestatic 274, 3) := by decide +kernel
theorem dX4_hashPairs_36 : decode cX4_hashPairs 36 = .ok (.lstore_n 3, 1) := by decide +kernel
theorem dX4_hashPairs_37 : decode cX4_hashPairs 37 = .ok (.lload_n 3, 1) := by decide +kernel
theorem dX4_hashPairs_38 : decode cX4_hashPairs 38 = .ok (.aload_n 0, 1) := by decide +kernel
theorem dX4_hashPairs_39 : decode cX4_hashPairs 39 = .ok (.iload 5, 2) := by decide +kernel
theorem dX4_hashPairs_41 : decode cX4_hashPairs 41 = .ok (.iload 6, 2) := by decide +kernel
theorem dX4_hashPairs_43 : decode cX4_hashPairs 43 = .ok (.iconst 2, 1) := by decide +kernel
theorem dX4_hashPairs_44 : decode cX4_hashPairs 44 = .ok (.invokevirtual 306, 3) := by decide +kernel
theorem dX4_hashPairs_47 : decode cX4_hashPairs 47 = .ok (.i2l, 1) := by decide +kernel
theorem dX4_hashPairs_48 : decode cX4_hashPairs 48 = .ok (.invokestatic 274, 3) := by decide +kernel
theorem dX4_hashPairs_51 : decode cX4_hashPairs 51 = .ok (.lstore_n 3, 1) := by decide +kernel
theorem dX4_hashPairs_52 : decode cX4_hashPairs 52 = .ok (.lload_n 3, 1) := by decide +kernel
theorem dX4_hashPairs_53 : decode cX4_hashPairs 53 = .ok (.aload_n 0, 1) := by decide +kernel
theorem dX4_hashPairs_54 : decode cX4_hashPairs 54 = .ok (.iload 5, 2) := by decide +kernel
theorem dX4_hashPairs_56 : decode cX4_hashPairs 56 = .ok (.iload 6, 2) := by decide +kernel
theorem dX4_hashPairs_58 : decode cX4_hashPairs 58 = .ok (.iconst 3, 1) := by decide +kernel
theorem dX4_hashPairs_59 : decode cX4_hashPairs 59 = .ok (.invokevirtual 306, 3) := by decide +kernel
theorem dX4_hashPairs_62 : decode cX4_hashPairs 62 = .ok (.i2l, 1) := by decide +kernel
theorem dX4_hashPairs_63 : decode cX4_hashPairs 63 = .ok (.invokestatic 274, 3) := by decide +kernel
theorem dX4_hashPairs_66 : decode cX4_hashPairs 66 = .ok (.lstore_n 3, 1) := by decide +kernel
theorem dX4_hashPairs_67 : decode cX4_hashPairs 67 = .ok (.lload_n 3, 1) := by decide +kernel
theorem dX4_hashPairs_68 : decode cX4_hashPairs 68 = .ok (.aload_n 0, 1) := by decide +kernel
theorem dX4_hashPairs_69 : decode cX4_hashPairs 69 = .ok (.iload 5, 2) := by decide +kernel
theorem dX4_hashPairs_71 : decode cX4_hashPairs 71 = .ok (.iload 6, 2) := by decide +kernel
theorem dX4_hashPairs_73 : decode cX4_hashPairs 73 = .ok (.iconst 4, 1) := by decide +kernel
theorem dX4_hashPairs_74 : decode cX4_hashPairs 74 = .ok (.invokevirtual 306, 3) := by decide +kernel
theorem dX4_hashPairs_77 : decode cX4_hashPairs 77 = .ok (.i2l, 1) := by decide +kernel
theorem dX4_hashPairs_78 : decode cX4_hashPairs 78 = .ok (.invokestatic 274, 3) := by decide +kernel
theorem dX4_hashPairs_81 : decode cX4_hashPairs 81 = .ok (.lstore_n 3, 1) := by decide +kernel
theorem dX4_hashPairs_82 : decode cX4_hashPairs 82 = .ok (.iinc 6 1, 3) := by decide +kernel
theorem dX4_hashPairs_85 : decode cX4_hashPairs 85 = .ok (.goto (-70), 3) := by decide +kernel
theorem dX4_hashPairs_88 : decode cX4_hashPairs 88 = .ok (.iinc 5 1, 3) := by decide +kernel
theorem dX4_hashPairs_91 : decode cX4_hashPairs 91 = .ok (.goto (-86), 3) := by decide +kernel
theorem dX4_hashPairs_94 : decode cX4_hashPairs 94 = .ok (.lload_n 3, 1) := by decide +kernel
theorem dX4_hashPairs_95 : decode cX4_hashPairs 95 = .ok (.lreturn, 1) := by decide +kernel
theorem dX4_hashShapes_0 : decode cX4_hashShapes 0 = .ok (.lload_n 1, 1) := by decide +kernel
theorem dX4_hashShapes_1 : decode cX4_hashShapes 1 = .ok (.lstore_n 3, 1) := by decide +kernel
theorem dX4_hashShapes_2 : decode cX4_hashShapes 2 = .ok (.iconst 0, 1) := by decide +kernel
theorem dX4_hashShapes_3 : decode cX4_hashShapes 3 = .ok (.istore 5, 2) := by decide +kernel
theorem dX4_hashShapes_5 : decode cX4_hashShapes 5 = .ok (.iload 5, 2) := by decide +kernel
theorem dX4_hashShapes_7 : decode cX4_hashShapes 7 = .ok (.iconst 4, 1) := by decide +kernel
theorem dX4_hashShapes_8 : decode cX4_hashShapes 8 = .ok (.if_icmp .ge 55, 3) := by decide +kernel
theorem dX4_hashShapes_11 : decode cX4_hashShapes 11 = .ok (.iconst 0, 1) := by decide +kernel
theorem dX4_hashShapes_12 : decode cX4_hashShapes 12 = .ok (.istore 6, 2) := by decide +kernel
theorem dX4_hashShapes_14 : decode cX4_hashShapes 14 = .ok (.iload 6, 2) := by decide +kernel
theorem dX4_hashShapes_16 : decode cX4_hashShapes 16 = .ok (.iconst 4, 1) := by decide +kernel
theorem dX4_hashShapes_17 : decode cX4_hashShapes 17 = .ok (.if_icmp .ge 40, 3) := by decide +kernel
theorem dX4_hashShapes_20 : decode cX4_hashShapes 20 = .ok (.iconst 0, 1) := by decide +kernel
theorem dX4_hashShapes_21 : decode cX4_hashShapes 21 = .ok (.istore 7, 2) := by decide +kernel
theorem dX4_hashShapes_23 : decode cX4_hashShapes 23 = .ok (.iload 7, 2) := by decide +kernel
theorem dX4_hashShapes_25 : decode cX4_hashShapes 25 = .ok (.iconst 4, 1) := by decide +kernel
theorem dX4_hashShapes_26 : decode cX4_hashShapes 26 = .ok (.if_icmp .ge 25, 3) := by decide +kernel
theorem dX4_hashShapes_29 : decode cX4_hashShapes 29 = .ok (.lload_n 3, 1) := by decide +kernel
theorem dX4_hashShapes_30 : decode cX4_hashShapes 30 = .ok (.aload_n 0, 1) := by decide +kernel
theorem dX4_hashShapes_31 : decode cX4_hashShapes 31 = .ok (.iload 5, 2) := by decide +kernel
theorem dX4_hashShapes_33 : decode cX4_hashShapes 33 = .ok (.iload 6, 2) := by decide +kernel
theorem dX4_hashShapes_35 : decode cX4_hashShapes 35 = .ok (.iload 7, 2) := by decide +kernel
theorem dX4_hashShapes_37 : decode cX4_hashShapes 37 = .ok (.invokevirtual 310, 3) := by decide +kernel
theorem dX4_hashShapes_40 : decode cX4_hashShapes 40 = .ok (.i2l, 1) := by decide +kernel
theorem dX4_hashShapes_41 : decode cX4_hashShapes 41 = .ok (.invokestatic 274, 3) := by decide +kernel
theorem dX4_hashShapes_44 : decode cX4_hashShapes 44 = .ok (.lstore_n 3, 1) := by decide +kernel
theorem dX4_hashShapes_45 : decode cX4_hashShapes 45 = .ok (.iinc 7 1, 3) := by decide +kernel
theorem dX4_hashShapes_48 : decode cX4_hashShapes 48 = .ok (.goto (-25), 3) := by decide +kernel
theorem dX4_hashShapes_51 : decode cX4_hashShapes 51 = .ok (.iinc 6 1, 3) := by decide +kernel
theorem dX4_hashShapes_54 : decode cX4_hashShapes 54 = .ok (.goto (-40), 3) := by decide +kernel
theorem dX4_hashShapes_57 : decode cX4_hashShapes 57 = .ok (.iinc 5 1, 3) := by decide +kernel
theorem dX4_hashShapes_60 : decode cX4_hashShapes 60 = .ok (.goto (-55), 3) := by decide +kernel
theorem dX4_hashShapes_63 : decode cX4_hashShapes 63 = .ok (.lload_n 3, 1) := by decide +kernel
theorem dX4_hashShapes_64 : decode cX4_hashShapes 64 = .ok (.lreturn, 1) := by decide +kernel
theorem dX4_hashLessons_0 : decode cX4_hashLessons 0 = .ok (.lload_n 1, 1) := by decide +kernel
theorem dX4_hashLessons_1 : decode cX4_hashLessons 1 = .ok (.lstore_n 3, 1) := by decide +kernel
theorem dX4_hashLessons_2 : decode cX4_hashLessons 2 = .ok (.iconst 0, 1) := by decide +kernel
theorem dX4_hashLessons_3 : decode cX4_hashLessons 3 = .ok (.istore 5, 2) := by decide +kernel
theorem dX4_hashLessons_5 : decode cX4_hashLessons 5 = .ok (.iload 5, 2) := by decide +kernel
theorem dX4_hashLessons_7 : decode cX4_hashLessons 7 = .ok (.aload_n 0, 1) := by decide +kernel
theorem dX4_hashLessons_8 : decode cX4_hashLessons 8 = .ok (.getfield 10, 3) := by decide +kernel
theorem dX4_hashLessons_11 : decode cX4_hashLessons 11 = .ok (.getfield 102, 3) := by decide +kernel
theorem dX4_hashLessons_14 : decode cX4_hashLessons 14 = .ok (.if_icmp .ge 51, 3) := by decide +kernel
theorem dX4_hashLessons_17 : decode cX4_hashLessons 17 = .ok (.iconst 0, 1) := by decide +kernel
theorem dX4_hashLessons_18 : decode cX4_hashLessons 18 = .ok (.istore 6, 2) := by decide +kernel
theorem dX4_hashLessons_20 : decode cX4_hashLessons 20 = .ok (.iload 6, 2) := by decide +kernel
theorem dX4_hashLessons_22 : decode cX4_hashLessons 22 = .ok (.iconst 4, 1) := by decide +kernel
theorem dX4_hashLessons_23 : decode cX4_hashLessons 23 = .ok (.if_icmp .ge 23, 3) := by decide +kernel
theorem dX4_hashLessons_26 : decode cX4_hashLessons 26 = .ok (.lload_n 3, 1) := by decide +kernel
theorem dX4_hashLessons_27 : decode cX4_hashLessons 27 = .ok (.aload_n 0, 1) := by decide +kernel
theorem dX4_hashLessons_28 : decode cX4_hashLessons 28 = .ok (.iload 5, 2) := by decide +kernel
theorem dX4_hashLessons_30 : decode cX4_hashLessons 30 = .ok (.iload 6, 2) := by decide +kernel
theorem dX4_hashLessons_32 : decode cX4_hashLessons 32 = .ok (.invokevirtual 313, 3) := by decide +kernel
theorem dX4_hashLessons_35 : decode cX4_hashLessons 35 = .ok (.i2l, 1) := by decide +kernel
theorem dX4_hashLessons_36 : decode cX4_hashLessons 36 = .ok (.invokestatic 274, 3) := by decide +kernel
theorem dX4_hashLessons_39 : decode cX4_hashLessons 39 = .ok (.lstore_n 3, 1) := by decide +kernel
theorem dX4_hashLessons_40 : decode cX4_hashLessons 40 = .ok (.iinc 6 1, 3) := by decide +kernel
theorem dX4_hashLessons_43 : decode cX4_hashLessons 43 = .ok (.goto (-23), 3) := by decide +kernel
theorem dX4_hashLessons_46 : decode cX4_hashLessons 46 = .ok (.lload_n 3, 1) := by decide +kernel
theorem dX4_hashLessons_47 : decode cX4_hashLessons 47 = .ok (.aload_n 0, 1) := by decide +kernel
theorem dX4_hashLessons_48 : decode cX4_hashLessons 48 = .ok (.getfield 45, 3) := by decide +kernel
theorem dX4_hashLessons_51 : decode cX4_hashLessons 51 = .ok (.iload 5, 2) := by decide +kernel
theorem dX4_hashLessons_53 : decode cX4_hashLessons 53 = .ok (.iaload, 1) := by decide +kernel
theorem dX4_hashLessons_54 : decode cX4_hashLessons 54 = .ok (.i2l, 1) := by decide +kernel
theorem dX4_hashLessons_55 : decode cX4_hashLessons 55 = .ok (.invokestatic 274, 3) := by decide +kernel
theorem dX4_hashLessons_58 : decode cX4_hashLessons 58 = .ok (.lstore_n 3, 1) := by decide +kernel
theorem dX4_hashLessons_59 : decode cX4_hashLessons 59 = .ok (.iinc 5 1, 3) := by decide +kernel
theorem dX4_hashLessons_62 : decode cX4_hashLessons 62 = .ok (.goto (-57), 3) := by decide +kernel
theorem dX4_hashLessons_65 : decode cX4_hashLessons 65 = .ok (.lload_n 3, 1) := by decide +kernel
theorem dX4_hashLessons_66 : decode cX4_hashLessons 66 = .ok (.lreturn, 1) := by decide +kernel
theorem dX4_bitsOfShare_0 : decode cX4_bitsOfShare 0 = .ok (.dload_n 0, 1) := by decide +kernel
theorem dX4_bitsOfShare_1 : decode cX4_bitsOfShare 1 = .ok (.dconst 0, 1) := by decide +kernel
theorem dX4_bitsOfShare_2 : decode cX4_bitsOfShare 2 = .ok (.dcmp .g, 1) := by decide +kernel
theorem dX4_bitsOfShare_3 : decode cX4_bitsOfShare 3 = .ok (.ifCond .gt 5, 3) := by decide +kernel
theorem dX4_bitsOfShare_6 : decode cX4_bitsOfShare 6 = .ok (.lconst 0, 1) := by decide +kernel
theorem dX4_bitsOfShare_7 : decode cX4_bitsOfShare 7 = .ok (.lreturn, 1) := by decide +kernel
theorem dX4_bitsOfShare_8 : decode cX4_bitsOfShare 8 = .ok (.dload_n 0, 1) := by decide +kernel
theorem dX4_bitsOfShare_9 : decode cX4_bitsOfShare 9 = .ok (.dstore_n 2, 1) := by decide +kernel
theorem dX4_bitsOfShare_10 : decode cX4_bitsOfShare 10 = .ok (.ldc2_w 316, 3) := by decide +kernel
theorem dX4_bitsOfShare_13 : decode cX4_bitsOfShare 13 = .ok (.lstore 4, 2) := by decide +kernel
theorem dX4_bitsOfShare_15 : decode cX4_bitsOfShare 15 = .ok (.iconst 1, 1) := by decide +kernel
theorem dX4_bitsOfShare_16 : decode cX4_bitsOfShare 16 = .ok (.istore 6, 2) := by decide +kernel
theorem dX4_bitsOfShare_18 : decode cX4_bitsOfShare 18 = .ok (.iload 6, 2) := by decide +kernel
theorem dX4_bitsOfShare_20 : decode cX4_bitsOfShare 20 = .ok (.sipush 1023, 3) := by decide +kernel
theorem dX4_bitsOfShare_23 : decode cX4_bitsOfShare 23 = .ok (.if_icmp .ge 27, 3) := by decide +kernel
theorem dX4_bitsOfShare_26 : decode cX4_bitsOfShare 26 = .ok (.dload_n 2, 1) := by decide +kernel
theorem dX4_bitsOfShare_27 : decode cX4_bitsOfShare 27 = .ok (.dconst 1, 1) := by decide +kernel
theorem dX4_bitsOfShare_28 : decode cX4_bitsOfShare 28 = .ok (.dcmp .g, 1) := by decide +kernel
theorem dX4_bitsOfShare_29 : decode cX4_bitsOfShare 29 = .ok (.ifCond .ge 21, 3) := by decide +kernel
theorem dX4_bitsOfShare_32 : decode cX4_bitsOfShare 32 = .ok (.dload_n 2, 1) := by decide +kernel
theorem dX4_bitsOfShare_33 : decode cX4_bitsOfShare 33 = .ok (.ldc2_w 318, 3) := by decide +kernel
theorem dX4_bitsOfShare_36 : decode cX4_bitsOfShare 36 = .ok (.dmul, 1) := by decide +kernel
theorem dX4_bitsOfShare_37 : decode cX4_bitsOfShare 37 = .ok (.dstore_n 2, 1) := by decide +kernel
theorem dX4_bitsOfShare_38 : decode cX4_bitsOfShare 38 = .ok (.lload 4, 2) := by decide +kernel
theorem dX4_bitsOfShare_40 : decode cX4_bitsOfShare 40 = .ok (.lconst 1, 1) := by decide +kernel
theorem dX4_bitsOfShare_41 : decode cX4_bitsOfShare 41 = .ok (.lsub, 1) := by decide +kernel
theorem dX4_bitsOfShare_42 : decode cX4_bitsOfShare 42 = .ok (.lstore 4, 2) := by decide +kernel
theorem dX4_bitsOfShare_44 : decode cX4_bitsOfShare 44 = .ok (.iinc 6 1, 3) := by decide +kernel
theorem dX4_bitsOfShare_47 : decode cX4_bitsOfShare 47 = .ok (.goto (-29), 3) := by decide +kernel
theorem dX4_bitsOfShare_50 : decode cX4_bitsOfShare 50 = .ok (.dload_n 2, 1) := by decide +kernel
theorem dX4_bitsOfShare_51 : decode cX4_bitsOfShare 51 = .ok (.dconst 1, 1) := by decide +kernel
theorem dX4_bitsOfShare_52 : decode cX4_bitsOfShare 52 = .ok (.dsub, 1) := by decide +kernel
theorem dX4_bitsOfShare_53 : decode cX4_bitsOfShare 53 = .ok (.ldc2_w 320, 3) := by decide +kernel
theorem dX4_bitsOfShare_56 : decode cX4_bitsOfShare 56 = .ok (.dmul, 1) := by decide +kernel
theorem dX4_bitsOfShare_57 : decode cX4_bitsOfShare 57 = .ok (.d2l, 1) := by decide +kernel
theorem dX4_bitsOfShare_58 : decode cX4_bitsOfShare 58 = .ok (.lstore 6, 2) := by decide +kernel
theorem dX4_bitsOfShare_60 : decode cX4_bitsOfShare 60 = .ok (.lload 4, 2) := by decide +kernel
theorem dX4_bitsOfShare_62 : decode cX4_bitsOfShare 62 = .ok (.bipush 52, 2) := by decide +kernel
theorem dX4_bitsOfShare_64 : decode cX4_bitsOfShare 64 = .ok (.lshl, 1) := by decide +kernel
theorem dX4_bitsOfShare_65 : decode cX4_bitsOfShare 65 = .ok (.lload 6, 2) := by decide +kernel
theorem dX4_bitsOfShare_67 : decode cX4_bitsOfShare 67 = .ok (.ladd, 1) := by decide +kernel
theorem dX4_bitsOfShare_68 : decode cX4_bitsOfShare 68 = .ok (.lreturn, 1) := by decide +kernel
