theorem dL_at_0 : decode cL_at 0 = .ok (.iload_n 1, 1) := by decide +kernel
theorem dL_at_1 : decode cL_at 1 = .ok (.aload_n 0, 1) := by decide +kernel
theorem dL_at_2 : decode cL_at 2 = .ok (.arraylength, 1) := by decide +kernel
theorem dL_at_3 : decode cL_at 3 = .ok (.if_icmp .ge 9, 3) := by decide +kernel
theorem dL_at_6 : decode cL_at 6 = .ok (.aload_n 0, 1) := by decide +kernel
theorem dL_at_7 : decode cL_at 7 = .ok (.iload_n 1, 1) := by decide +kernel
theorem dL_at_8 : decode cL_at 8 = .ok (.iaload, 1) := by decide +kernel
theorem dL_at_9 : decode cL_at 9 = .ok (.goto 4, 3) := by decide +kernel
theorem dL_at_12 : decode cL_at 12 = .ok (.iconst 0, 1) := by decide +kernel
theorem dL_at_13 : decode cL_at 13 = .ok (.ireturn, 1) := by decide +kernel
theorem dL_some_0 : decode cL_some 0 = .ok (.iload_n 0, 1) := by decide +kernel
theorem dL_some_1 : decode cL_some 1 = .ok (.iload_n 1, 1) := by decide +kernel
theorem dL_some_2 : decode cL_some 2 = .ok (.irem, 1) := by decide +kernel
theorem dL_some_3 : decode cL_some 3 = .ok (.istore_n 2, 1) := by decide +kernel
theorem dL_some_4 : decode cL_some 4 = .ok (.iload_n 2, 1) := by decide +kernel
theorem dL_some_5 : decode cL_some 5 = .ok (.ifCond .ge 9, 3) := by decide +kernel
theorem dL_some_8 : decode cL_some 8 = .ok (.iload_n 2, 1) := by decide +kernel
theorem dL_some_9 : decode cL_some 9 = .ok (.iload_n 1, 1) := by decide +kernel
theorem dL_some_10 : decode cL_some 10 = .ok (.iadd, 1) := by decide +kernel
theorem dL_some_11 : decode cL_some 11 = .ok (.goto 4, 3) := by decide +kernel
theorem dL_some_14 : decode cL_some 14 = .ok (.iload_n 2, 1) := by decide +kernel
theorem dL_some_15 : decode cL_some 15 = .ok (.ireturn, 1) := by decide +kernel
theorem dL_address_0 : decode cL_address 0 = .ok (.aload_n 0, 1) := by decide +kernel
theorem dL_address_1 : decode cL_address 1 = .ok (.iload_n 1, 1) := by decide +kernel
theorem dL_address_2 : decode cL_address 2 = .ok (.invokevirtual 7, 3) := by decide +kernel
theorem dL_address_5 : decode cL_address 5 = .ok (.ireturn, 1) := by decide +kernel
theorem dL_address_6 : decode cL_address 6 = .ok (.astore_n 2, 1) := by decide +kernel
theorem dL_address_7 : decode cL_address 7 = .ok (.sipush (-1001), 3) := by decide +kernel
theorem dL_address_10 : decode cL_address 10 = .ok (.ireturn, 1) := by decide +kernel
theorem dL_address_11 : decode cL_address 11 = .ok (.astore_n 2, 1) := by decide +kernel
theorem dL_address_12 : decode cL_address 12 = .ok (.sipush (-1002), 3) := by decide +kernel
theorem dL_address_15 : decode cL_address 15 = .ok (.ireturn, 1) := by decide +kernel
theorem dL_sets_0 : decode cL_sets 0 = .ok (.iload_n 1, 1) := by decide +kernel
theorem dL_sets_1 : decode cL_sets 1 = .ok (.bipush 106, 2) := by decide +kernel
theorem dL_sets_3 : decode cL_sets 3 = .ok (.if_icmp .ne 12, 3) := by decide +kernel
theorem dL_sets_6 : decode cL_sets 6 = .ok (.aload_n 0, 1) := by decide +kernel
theorem dL_sets_7 : decode cL_sets 7 = .ok (.iload_n 2, 1) := by decide +kernel
theorem dL_sets_8 : decode cL_sets 8 = .ok (.iload_n 3, 1) := by decide +kernel
theorem dL_sets_9 : decode cL_sets 9 = .ok (.invokevirtual 17, 3) := by decide +kernel
theorem dL_sets_12 : decode cL_sets 12 = .ok (.goto 39, 3) := by decide +kernel
theorem dL_sets_15 : decode cL_sets 15 = .ok (.iload_n 1, 1) := by decide +kernel
theorem dL_sets_16 : decode cL_sets 16 = .ok (.bipush 102, 2) := by decide +kernel
theorem dL_sets_18 : decode cL_sets 18 = .ok (.if_icmp .ne 12, 3) := by decide +kernel
theorem dL_sets_21 : decode cL_sets 21 = .ok (.aload_n 0, 1) := by decide +kernel
theorem dL_sets_22 : decode cL_sets 22 = .ok (.iload_n 2, 1) := by decide +kernel
theorem dL_sets_23 : decode cL_sets 23 = .ok (.iload_n 3, 1) := by decide +kernel
theorem dL_sets_24 : decode cL_sets 24 = .ok (.invokevirtual 21, 3) := by decide +kernel
theorem dL_sets_27 : decode cL_sets 27 = .ok (.goto 24, 3) := by decide +kernel
theorem dL_sets_30 : decode cL_sets 30 = .ok (.iload_n 1, 1) := by decide +kernel
theorem dL_sets_31 : decode cL_sets 31 = .ok (.bipush 109, 2) := by decide +kernel
theorem dL_sets_33 : decode cL_sets 33 = .ok (.if_icmp .ne 12, 3) := by decide +kernel
theorem dL_sets_36 : decode cL_sets 36 = .ok (.aload_n 0, 1) := by decide +kernel
theorem dL_sets_37 : decode cL_sets 37 = .ok (.iload_n 2, 1) := by decide +kernel
theorem dL_sets_38 : decode cL_sets 38 = .ok (.iload_n 3, 1) := by decide +kernel
theorem dL_sets_39 : decode cL_sets 39 = .ok (.invokevirtual 24, 3) := by decide +kernel
theorem dL_sets_42 : decode cL_sets 42 = .ok (.goto 9, 3) := by decide +kernel
theorem dL_sets_45 : decode cL_sets 45 = .ok (.aload_n 0, 1) := by decide +kernel
theorem dL_sets_46 : decode cL_sets 46 = .ok (.iload_n 2, 1) := by decide +kernel
theorem dL_sets_47 : decode cL_sets 47 = .ok (.iload_n 3, 1) := by decide +kernel
theorem dL_sets_48 : decode cL_sets 48 = .ok (.invokevirtual 27, 3) := by decide +kernel
theorem dL_sets_51 : decode cL_sets 51 = .ok (.ireturn, 1) := by decide +kernel
theorem dL_sets_52 : decode cL_sets 52 = .ok (.astore 4, 2) := by decide +kernel
theorem dL_sets_54 : decode cL_sets 54 = .ok (.sipush (-1001), 3) := by decide +kernel
theorem dL_sets_57 : decode cL_sets 57 = .ok (.ireturn, 1) := by decide +kernel
theorem dL_sets_58 : decode cL_sets 58 = .ok (.astore 4, 2) := by decide +kernel
theorem dL_sets_60 : decode cL_sets 60 = .ok (.sipush (-1002), 3) := by decide +kernel
theorem dL_sets_63 : decode cL_sets 63 = .ok (.ireturn, 1) := by decide +kernel
theorem dL_sets_64 : decode cL_sets 64 = .ok (.astore 4, 2) := by decide +kernel
theorem dL_sets_66 : decode cL_sets 66 = .ok (.sipush (-1003), 3) := by decide +kernel
theorem dL_sets_69 : decode cL_sets 69 = .ok (.ireturn, 1) := by decide +kernel
theorem dL_suppress_0 : decode cL_suppress 0 = .ok (.iload_n 2, 1) := by decide +kernel
theorem dL_suppress_1 : decode cL_suppress 1 = .ok (.bipush 45, 2) := by decide +kernel
theorem dL_suppress_3 : decode cL_suppress 3 = .ok (.if_icmp .ne 11, 3) := by decide +kernel
theorem dL_suppress_6 : decode cL_suppress 6 = .ok (.aload_n 0, 1) := by decide +kernel
theorem dL_suppress_7 : decode cL_suppress 7 = .ok (.iload_n 1, 1) := by decide +kernel
theorem dL_suppress_8 : decode cL_suppress 8 = .ok (.invokevirtual 32, 3) := by decide +kernel
theorem dL_suppress_11 : decode cL_suppress 11 = .ok (.goto 9, 3) := by decide +kernel
theorem dL_suppress_14 : decode cL_suppress 14 = .ok (.aload_n 0, 1) := by decide +kernel
theorem dL_suppress_15 : decode cL_suppress 15 = .ok (.iload_n 1, 1) := by decide +kernel
theorem dL_suppress_16 : decode cL_suppress 16 = .ok (.iload_n 2, 1) := by decide +kernel
theorem dL_suppress_17 : decode cL_suppress 17 = .ok (.invokevirtual 36, 3) := by decide +kernel
theorem dL_suppress_20 : decode cL_suppress 20 = .ok (.ireturn, 1) := by decide +kernel
theorem dL_suppress_21 : decode cL_suppress 21 = .ok (.astore_n 3, 1) := by decide +kernel
theorem dL_suppress_22 : decode cL_suppress 22 = .ok (.sipush (-1001), 3) := by decide +kernel
theorem dL_suppress_25 : decode cL_suppress 25 = .ok (.ireturn, 1) := by decide +kernel
theorem dL_suppress_26 : decode cL_suppress 26 = .ok (.astore_n 3, 1) := by decide +kernel
theorem dL_suppress_27 : decode cL_suppress 27 = .ok (.sipush (-1002), 3) := by decide +kernel
theorem dL_suppress_30 : decode cL_suppress 30 = .ok (.ireturn, 1) := by decide +kernel
theorem dL_suppress_31 : decode cL_suppress 31 = .ok (.astore_n 3, 1) := by decide +kernel
theorem dL_suppress_32 : decode cL_suppress 32 = .ok (.sipush (-1002), 3) := by decide +kernel
theorem dL_suppress_35 : decode cL_suppress 35 = .ok (.ireturn, 1) := by decide +kernel
theorem dL_of_0 : decode cL_of 0 = .ok (.iload_n 2, 1) := by decide +kernel
theorem dL_of_1 : decode cL_of 1 = .ok (.ifCond .ne 11, 3) := by decide +kernel
theorem dL_of_4 : decode cL_of 4 = .ok (.aload_n 0, 1) := by decide +kernel
theorem dL_of_5 : decode cL_of 5 = .ok (.iload_n 1, 1) := by decide +kernel
theorem dL_of_6 : decode cL_of 6 = .ok (.invokevirtual 40, 3) := by decide +kernel
theorem dL_of_9 : decode cL_of 9 = .ok (.goto 21, 3) := by decide +kernel
theorem dL_of_12 : decode cL_of 12 = .ok (.iload_n 2, 1) := by decide +kernel
theorem dL_of_13 : decode cL_of 13 = .ok (.iconst 1, 1) := by decide +kernel
theorem dL_of_14 : decode cL_of 14 = .ok (.if_icmp .ne 11, 3) := by decide +kernel
theorem dL_of_17 : decode cL_of 17 = .ok (.aload_n 0, 1) := by decide +kernel
theorem dL_of_18 : decode cL_of 18 = .ok (.iload_n 1, 1) := by decide +kernel
theorem dL_of_19 : decode cL_of 19 = .ok (.invokevirtual 43, 3) := by decide +kernel
theorem dL_of_22 : decode cL_of 22 = .ok (.goto 8, 3) := by decide +kernel
theorem dL_of_25 : decode cL_of 25 = .ok (.aload_n 0, 1) := by decide +kernel
theorem dL_of_26 : decode cL_of 26 = .ok (.iload_n 1, 1) := by decide +kernel
theorem dL_of_27 : decode cL_of 27 = .ok (.invokevirtual 46, 3) := by decide +kernel
theorem dL_of_30 : decode cL_of 30 = .ok (.ireturn, 1) := by decide +kernel
theorem dL_of_31 : decode cL_of 31 = .ok (.astore_n 3, 1) := by decide +kernel
theorem dL_of_32 : decode cL_of 32 = .ok (.sipush (-1001), 3) := by decide +kernel
theorem dL_of_35 : decode cL_of 35 = .ok (.ireturn, 1) := by decide +kernel
theorem dL_template_0 : decode cL_template 0 = .ok (.aload_n 0, 1) := by decide +kernel
theorem dL_template_1 : decode cL_template 1 = .ok (.invokevirtual 49, 3) := by decide +kernel
theorem dL_template_4 : decode cL_template 4 = .ok (.ireturn, 1) := by decide +kernel
theorem dL_template_5 : decode cL_template 5 = .ok (.astore_n 1, 1) := by decide +kernel
theorem dL_template_6 : decode cL_template 6 = .ok (.sipush (-1001), 3) := by decide +kernel
theorem dL_template_9 : decode cL_template 9 = .ok (.ireturn, 1) := by decide +kernel
theorem dL_part_0 : decode cL_part 0 = .ok (.aload_n 0, 1) := by decide +kernel
theorem dL_part_1 : decode cL_part 1 = .ok (.iload_n 1, 1) := by decide +kernel
theorem dL_part_2 : decode cL_part 2 = .ok (.iload_n 2, 1) := by decide +kernel
theorem dL_part_3 : decode cL_part 3 = .ok (.iload_n 3, 1) := by decide +kernel
theorem dL_part_4 : decode cL_part 4 = .ok (.iload 4, 2) := by decide +kernel
theorem dL_part_6 : decode cL_part 6 = .ok (.invokevirtual 53, 3) := by decide +kernel
theorem dL_part_9 : decode cL_part 9 = .ok (.ireturn, 1) := by decide +kernel
theorem dL_part_10 : decode cL_part 10 = .ok (.astore 5, 2) := by decide +kernel
theorem dL_part_12 : decode cL_part 12 = .ok (.sipush (-1001), 3) := by decide +kernel
theorem dL_part_15 : decode cL_part 15 = .ok (.ireturn, 1) := by decide +kernel
theorem dL_part_16 : decode cL_part 16 = .ok (.astore 5, 2) := by decide +kernel
theorem dL_part_18 : decode cL_part 18 = .ok (.sipush (-1002), 3) := by decide +kernel
theorem dL_part_21 : decode cL_part 21 = .ok (.ireturn, 1) := by decide +kernel
theorem dL_part_22 : decode cL_part 22 = .ok (.astore 5, 2) := by decide +kernel
theorem dL_part_24 : decode cL_part 24 = .ok (.sipush (-1003), 3) := by decide +kernel
theorem dL_part_27 : decode cL_part 27 = .ok (.ireturn, 1) := by decide +kernel
theorem dL_pages_0 : decode cL_pages 0 = .ok (.aload_n 0, 1) := by decide +kernel
theorem dL_pages_1 : decode cL_pages 1 = .ok (.iload_n 1, 1) := by decide +kernel
theorem dL_pages_2 : decode cL_pages 2 = .ok (.iload_n 2, 1) := by decide +kernel
theorem dL_pages_3 : decode cL_pages 3 = .ok (.invokevirtual 57, 3) := by decide +kernel
theorem dL_pages_6 : decode cL_pages 6 = .ok (.ireturn, 1) := by decide +kernel
theorem dL_pages_7 : decode cL_pages 7 = .ok (.astore_n 3, 1) := by decide +kernel
theorem dL_pages_8 : decode cL_pages 8 = .ok (.sipush (-1001), 3) := by decide +kernel
theorem dL_pages_11 : decode cL_pages 11 = .ok (.ireturn, 1) := by decide +kernel
theorem dL_pages_12 : decode cL_pages 12 = .ok (.astore_n 3, 1) := by decide +kernel
theorem dL_pages_13 : decode cL_pages 13 = .ok (.sipush (-1002), 3) := by decide +kernel
theorem dL_pages_16 : decode cL_pages 16 = .ok (.ireturn, 1) := by decide +kernel
theorem dL_buys_0 : decode cL_buys 0 = .ok (.iload_n 1, 1) := by decide +kernel
theorem dL_buys_1 : decode cL_buys 1 = .ok (.bipush 112, 2) := by decide +kernel
theorem dL_buys_3 : decode cL_buys 3 = .ok (.if_icmp .ne 11, 3) := by decide +kernel
theorem dL_buys_6 : decode cL_buys 6 = .ok (.aload_n 0, 1) := by decide +kernel
theorem dL_buys_7 : decode cL_buys 7 = .ok (.iload_n 2, 1) := by decide +kernel
theorem dL_buys_8 : decode cL_buys 8 = .ok (.invokevirtual 60, 3) := by decide +kernel
theorem dL_buys_11 : decode cL_buys 11 = .ok (.goto 33, 3) := by decide +kernel
theorem dL_buys_14 : decode cL_buys 14 = .ok (.iload_n 1, 1) := by decide +kernel
theorem dL_buys_15 : decode cL_buys 15 = .ok (.bipush 98, 2) := by decide +kernel
theorem dL_buys_17 : decode cL_buys 17 = .ok (.if_icmp .ne 11, 3) := by decide +kernel
theorem dL_buys_20 : decode cL_buys 20 = .ok (.aload_n 0, 1) := by decide +kernel
theorem dL_buys_21 : decode cL_buys 21 = .ok (.iload_n 2, 1) := by decide +kernel
theorem dL_buys_22 : decode cL_buys 22 = .ok (.invokevirtual 63, 3) := by decide +kernel
theorem dL_buys_25 : decode cL_buys 25 = .ok (.goto 19, 3) := by decide +kernel
theorem dL_buys_28 : decode cL_buys 28 = .ok (.aload_n 0, 1) := by decide +kernel
theorem dL_buys_29 : decode cL_buys 29 = .ok (.iload_n 1, 1) := by decide +kernel
theorem dL_buys_30 : decode cL_buys 30 = .ok (.bipush 108, 2) := by decide +kernel
theorem dL_buys_32 : decode cL_buys 32 = .ok (.if_icmp .ne 7, 3) := by decide +kernel
theorem dL_buys_35 : decode cL_buys 35 = .ok (.iconst 1, 1) := by decide +kernel
theorem dL_buys_36 : decode cL_buys 36 = .ok (.goto 4, 3) := by decide +kernel
theorem dL_buys_39 : decode cL_buys 39 = .ok (.iconst 0, 1) := by decide +kernel
theorem dL_buys_40 : decode cL_buys 40 = .ok (.iload_n 2, 1) := by decide +kernel
theorem dL_buys_41 : decode cL_buys 41 = .ok (.invokevirtual 66, 3) := by decide +kernel
theorem dL_buys_44 : decode cL_buys 44 = .ok (.ireturn, 1) := by decide +kernel
theorem dL_buys_45 : decode cL_buys 45 = .ok (.astore_n 3, 1) := by decide +kernel
theorem dL_buys_46 : decode cL_buys 46 = .ok (.sipush (-1001), 3) := by decide +kernel
theorem dL_buys_49 : decode cL_buys 49 = .ok (.ireturn, 1) := by decide +kernel
theorem dL_buys_50 : decode cL_buys 50 = .ok (.astore_n 3, 1) := by decide +kernel
theorem dL_buys_51 : decode cL_buys 51 = .ok (.sipush (-1002), 3) := by decide +kernel
theorem dL_buys_54 : decode cL_buys 54 = .ok (.ireturn, 1) := by decide +kernel
theorem dL_run_0 : decode cL_run 0 = .ok (.aload_n 0, 1) := by decide +kernel
theorem dL_run_1 : decode cL_run 1 = .ok (.iload_n 1, 1) := by decide +kernel
theorem dL_run_2 : decode cL_run 2 = .ok (.iload_n 2, 1) := by decide +kernel
theorem dL_run_3 : decode cL_run 3 = .ok (.invokevirtual 70, 3) := by decide +kernel
theorem dL_run_6 : decode cL_run 6 = .ok (.ireturn, 1) := by decide +kernel
theorem dL_run_7 : decode cL_run 7 = .ok (.astore_n 3, 1) := by decide +kernel
theorem dL_run_8 : decode cL_run 8 = .ok (.sipush (-1001), 3) := by decide +kernel
theorem dL_run_11 : decode cL_run 11 = .ok (.ireturn, 1) := by decide +kernel
theorem dL_run_12 : decode cL_run 12 = .ok (.astore_n 3, 1) := by decide +kernel
theorem dL_run_13 : decode cL_run 13 = .ok (.sipush (-1002), 3) := by decide +kernel
theorem dL_run_16 : decode cL_run 16 = .ok (.ireturn, 1) := by decide +kernel
theorem dL_preview_0 : decode cL_preview 0 = .ok (.iload 4, 2) := by decide +kernel
theorem dL_preview_2 : decode cL_preview 2 = .ok (.ifCond .eq 13, 3) := by decide +kernel
theorem dL_preview_5 : decode cL_preview 5 = .ok (.aload_n 0, 1) := by decide +kernel
theorem dL_preview_6 : decode cL_preview 6 = .ok (.iload_n 1, 1) := by decide +kernel
theorem dL_preview_7 : decode cL_preview 7 = .ok (.iload_n 2, 1) := by decide +kernel
theorem dL_preview_8 : decode cL_preview 8 = .ok (.iload_n 3, 1) := by decide +kernel
theorem dL_preview_9 : decode cL_preview 9 = .ok (.invokevirtual 74, 3) := by decide +kernel
theorem dL_preview_12 : decode cL_preview 12 = .ok (.goto 10, 3) := by decide +kernel
theorem dL_preview_15 : decode cL_preview 15 = .ok (.aload_n 0, 1) := by decide +kernel
theorem dL_preview_16 : decode cL_preview 16 = .ok (.iload_n 1, 1) := by decide +kernel
theorem dL_preview_17 : decode cL_preview 17 = .ok (.iload_n 2, 1) := by decide +kernel
theorem dL_preview_18 : decode cL_preview 18 = .ok (.iload_n 3, 1) := by decide +kernel
theorem dL_preview_19 : decode cL_preview 19 = .ok (.invokevirtual 78, 3) := by decide +kernel
theorem dL_preview_22 : decode cL_preview 22 = .ok (.ireturn, 1) := by decide +kernel
theorem dL_preview_23 : decode cL_preview 23 = .ok (.astore 5, 2) := by decide +kernel
theorem dL_preview_25 : decode cL_preview 25 = .ok (.sipush (-1001), 3) := by decide +kernel
theorem dL_preview_28 : decode cL_preview 28 = .ok (.ireturn, 1) := by decide +kernel
theorem dL_back_0 : decode cL_back 0 = .ok (.aload_n 0, 1) := by decide +kernel
theorem dL_back_1 : decode cL_back 1 = .ok (.iload_n 1, 1) := by decide +kernel
theorem dL_back_2 : decode cL_back 2 = .ok (.iload_n 2, 1) := by decide +kernel
theorem dL_back_3 : decode cL_back 3 = .ok (.iload_n 3, 1) := by decide +kernel
theorem dL_back_4 : decode cL_back 4 = .ok (.invokevirtual 81, 3) := by decide +kernel
theorem dL_back_7 : decode cL_back 7 = .ok (.ireturn, 1) := by decide +kernel
theorem dL_back_8 : decode cL_back 8 = .ok (.astore 4, 2) := by decide +kernel
theorem dL_back_10 : decode cL_back 10 = .ok (.sipush (-1001), 3) := by decide +kernel
theorem dL_back_13 : decode cL_back 13 = .ok (.ireturn, 1) := by decide +kernel
theorem dL_back_14 : decode cL_back 14 = .ok (.astore 4, 2) := by decide +kernel
theorem dL_back_16 : decode cL_back 16 = .ok (.sipush (-1002), 3) := by decide +kernel
theorem dL_back_19 : decode cL_back 19 = .ok (.ireturn, 1) := by decide +kernel
theorem dL_back_20 : decode cL_back 20 = .ok (.astore 4, 2) := by decide +kernel
theorem dL_back_22 : decode cL_back 22 = .ok (.sipush (-1003), 3) := by decide +kernel
theorem dL_back_25 : decode cL_back 25 = .ok (.ireturn, 1) := by decide +kernel
theorem dL_told_0 : decode cL_told 0 = .ok (.iload_n 3, 1) := by decide +kernel
theorem dL_told_1 : decode cL_told 1 = .ok (.tableswitch 69 0 4 #[35, 42, 48, 55, 62], 35) := by decide +kernel
theorem dL_told_36 : decode cL_told 36 = .ok (.aload_n 0, 1) := by decide +kernel
theorem dL_told_37 : decode cL_told 37 = .ok (.iload_n 1, 1) := by decide +kernel
theorem dL_told_38 : decode cL_told 38 = .ok (.iload_n 2, 1) := by decide +kernel
theorem dL_told_39 : decode cL_told 39 = .ok (.invokevirtual 85, 3) := by decide +kernel
theorem dL_told_42 : decode cL_told 42 = .ok (.ireturn, 1) := by decide +kernel
theorem dL_told_43 : decode cL_told 43 = .ok (.aload_n 0, 1) := by decide +kernel
theorem dL_told_44 : decode cL_told 44 = .ok (.iload_n 1, 1) := by decide +kernel
theorem dL_told_45 : decode cL_told 45 = .ok (.invokevirtual 89, 3) := by decide +kernel
theorem dL_told_48 : decode cL_told 48 = .ok (.ireturn, 1) := by decide +kernel
theorem dL_told_49 : decode cL_told 49 = .ok (.aload_n 0, 1) := by decide +kernel
theorem dL_told_50 : decode cL_told 50 = .ok (.iload_n 1, 1) := by decide +kernel
theorem dL_told_51 : decode cL_told 51 = .ok (.iload_n 2, 1) := by decide +kernel
theorem dL_told_52 : decode cL_told 52 = .ok (.invokevirtual 92, 3) := by decide +kernel
theorem dL_told_55 : decode cL_told 55 = .ok (.ireturn, 1) := by decide +kernel
theorem dL_told_56 : decode cL_told 56 = .ok (.aload_n 0, 1) := by decide +kernel
theorem dL_told_57 : decode cL_told 57 = .ok (.iload_n 1, 1) := by decide +kernel
theorem dL_told_58 : decode cL_told 58 = .ok (.iload_n 2, 1) := by decide +kernel
theorem dL_told_59 : decode cL_told 59 = .ok (.invokevirtual 95, 3) := by decide +kernel
theorem dL_told_62 : decode cL_told 62 = .ok (.ireturn, 1) := by decide +kernel
theorem dL_told_63 : decode cL_told 63 = .ok (.aload_n 0, 1) := by decide +kernel
theorem dL_told_64 : decode cL_told 64 = .ok (.iload_n 1, 1) := by decide +kernel
theorem dL_told_65 : decode cL_told 65 = .ok (.iload_n 2, 1) := by decide +kernel
theorem dL_told_66 : decode cL_told 66 = .ok (.invokevirtual 98, 3) := by decide +kernel
theorem dL_told_69 : decode cL_told 69 = .ok (.ireturn, 1) := by decide +kernel
theorem dL_told_70 : decode cL_told 70 = .ok (.aload_n 0, 1) := by decide +kernel
theorem dL_told_71 : decode cL_told 71 = .ok (.iload_n 1, 1) := by decide +kernel
theorem dL_told_72 : decode cL_told 72 = .ok (.iload_n 2, 1) := by decide +kernel
theorem dL_told_73 : decode cL_told 73 = .ok (.invokevirtual 101, 3) := by decide +kernel
theorem dL_told_76 : decode cL_told 76 = .ok (.ireturn, 1) := by decide +kernel
theorem dL_told_77 : decode cL_told 77 = .ok (.astore 4, 2) := by decide +kernel
theorem dL_told_79 : decode cL_told 79 = .ok (.sipush (-1001), 3) := by decide +kernel
theorem dL_told_82 : decode cL_told 82 = .ok (.ireturn, 1) := by decide +kernel
theorem dL_told_83 : decode cL_told 83 = .ok (.astore 4, 2) := by decide +kernel
theorem dL_told_85 : decode cL_told 85 = .ok (.sipush (-1002), 3) := by decide +kernel
theorem dL_told_88 : decode cL_told 88 = .ok (.ireturn, 1) := by decide +kernel
theorem dL_told_89 : decode cL_told 89 = .ok (.astore 4, 2) := by decide +kernel
theorem dL_told_91 : decode cL_told 91 = .ok (.sipush (-1002), 3) := by decide +kernel
theorem dL_told_94 : decode cL_told 94 = .ok (.ireturn, 1) := by decide +kernel
theorem dL_cost_0 : decode cL_cost 0 = .ok (.aload_n 0, 1) := by decide +kernel
theorem dL_cost_1 : decode cL_cost 1 = .ok (.iload_n 1, 1) := by decide +kernel
theorem dL_cost_2 : decode cL_cost 2 = .ok (.invokevirtual 106, 3) := by decide +kernel
theorem dL_cost_5 : decode cL_cost 5 = .ok (.lreturn, 1) := by decide +kernel
theorem dL_cost_6 : decode cL_cost 6 = .ok (.astore_n 2, 1) := by decide +kernel
theorem dL_cost_7 : decode cL_cost 7 = .ok (.ldc2_w 110, 3) := by decide +kernel
theorem dL_cost_10 : decode cL_cost 10 = .ok (.lreturn, 1) := by decide +kernel
theorem dL_share_0 : decode cL_share 0 = .ok (.aload_n 0, 1) := by decide +kernel
theorem dL_share_1 : decode cL_share 1 = .ok (.invokevirtual 112, 3) := by decide +kernel
theorem dL_share_4 : decode cL_share 4 = .ok (.freturn, 1) := by decide +kernel
theorem dL_share_5 : decode cL_share 5 = .ok (.astore_n 1, 1) := by decide +kernel
theorem dL_share_6 : decode cL_share 6 = .ok (.ldc 118, 2) := by decide +kernel
theorem dL_share_8 : decode cL_share 8 = .ok (.freturn, 1) := by decide +kernel
theorem dL_mean_0 : decode cL_mean 0 = .ok (.aload_n 0, 1) := by decide +kernel
theorem dL_mean_1 : decode cL_mean 1 = .ok (.invokevirtual 119, 3) := by decide +kernel
theorem dL_mean_4 : decode cL_mean 4 = .ok (.dreturn, 1) := by decide +kernel
theorem dL_mean_5 : decode cL_mean 5 = .ok (.astore_n 1, 1) := by decide +kernel
theorem dL_mean_6 : decode cL_mean 6 = .ok (.ldc2_w 123, 3) := by decide +kernel
theorem dL_mean_9 : decode cL_mean 9 = .ok (.dreturn, 1) := by decide +kernel
theorem dL_many_0 : decode cL_many 0 = .ok (.iconst 0, 1) := by decide +kernel
theorem dL_many_1 : decode cL_many 1 = .ok (.istore_n 2, 1) := by decide +kernel
theorem dL_many_2 : decode cL_many 2 = .ok (.iload_n 2, 1) := by decide +kernel
theorem dL_many_3 : decode cL_many 3 = .ok (.bipush 24, 2) := by decide +kernel
theorem dL_many_5 : decode cL_many 5 = .ok (.if_icmp .ge 46, 3) := by decide +kernel
theorem dL_many_8 : decode cL_many 8 = .ok (.iload_n 1, 1) := by decide +kernel
theorem dL_many_9 : decode cL_many 9 = .ok (.ifCond .ne 12, 3) := by decide +kernel
theorem dL_many_12 : decode cL_many 12 = .ok (.aload_n 0, 1) := by decide +kernel
theorem dL_many_13 : decode cL_many 13 = .ok (.iload_n 2, 1) := by decide +kernel
theorem dL_many_14 : decode cL_many 14 = .ok (.iconst 0, 1) := by decide +kernel
theorem dL_many_15 : decode cL_many 15 = .ok (.invokestatic 125, 3) := by decide +kernel
theorem dL_many_18 : decode cL_many 18 = .ok (.goto 24, 3) := by decide +kernel
theorem dL_many_21 : decode cL_many 21 = .ok (.iload_n 1, 1) := by decide +kernel
theorem dL_many_22 : decode cL_many 22 = .ok (.iconst 1, 1) := by decide +kernel
theorem dL_many_23 : decode cL_many 23 = .ok (.if_icmp .ne 13, 3) := by decide +kernel
theorem dL_many_26 : decode cL_many 26 = .ok (.aload_n 0, 1) := by decide +kernel
theorem dL_many_27 : decode cL_many 27 = .ok (.iload_n 2, 1) := by decide +kernel
theorem dL_many_28 : decode cL_many 28 = .ok (.iconst 0, 1) := by decide +kernel
theorem dL_many_29 : decode cL_many 29 = .ok (.iconst 1, 1) := by decide +kernel
theorem dL_many_30 : decode cL_many 30 = .ok (.invokestatic 131, 3) := by decide +kernel
theorem dL_many_33 : decode cL_many 33 = .ok (.goto 9, 3) := by decide +kernel
theorem dL_many_36 : decode cL_many 36 = .ok (.aload_n 0, 1) := by decide +kernel
theorem dL_many_37 : decode cL_many 37 = .ok (.iload_n 2, 1) := by decide +kernel
theorem dL_many_38 : decode cL_many 38 = .ok (.iconst 0, 1) := by decide +kernel
theorem dL_many_39 : decode cL_many 39 = .ok (.invokestatic 135, 3) := by decide +kernel
theorem dL_many_42 : decode cL_many 42 = .ok (.ifCond .lt 9, 3) := by decide +kernel
theorem dL_many_45 : decode cL_many 45 = .ok (.iinc 2 1, 3) := by decide +kernel
theorem dL_many_48 : decode cL_many 48 = .ok (.goto (-46), 3) := by decide +kernel
theorem dL_many_51 : decode cL_many 51 = .ok (.iload_n 2, 1) := by decide +kernel
theorem dL_many_52 : decode cL_many 52 = .ok (.ireturn, 1) := by decide +kernel
theorem dL_sum_0 : decode cL_sum 0 = .ok (.aload_n 0, 1) := by decide +kernel
theorem dL_sum_1 : decode cL_sum 1 = .ok (.iconst 0, 1) := by decide +kernel
theorem dL_sum_2 : decode cL_sum 2 = .ok (.invokestatic 138, 3) := by decide +kernel
theorem dL_sum_5 : decode cL_sum 5 = .ok (.istore_n 1, 1) := by decide +kernel
theorem dL_sum_6 : decode cL_sum 6 = .ok (.aload_n 0, 1) := by decide +kernel
theorem dL_sum_7 : decode cL_sum 7 = .ok (.iconst 1, 1) := by decide +kernel
theorem dL_sum_8 : decode cL_sum 8 = .ok (.invokestatic 138, 3) := by decide +kernel
theorem dL_sum_11 : decode cL_sum 11 = .ok (.istore_n 2, 1) := by decide +kernel
theorem dL_sum_12 : decode cL_sum 12 = .ok (.aload_n 0, 1) := by decide +kernel
theorem dL_sum_13 : decode cL_sum 13 = .ok (.invokevirtual 142, 3) := by decide +kernel
theorem dL_sum_16 : decode cL_sum 16 = .ok (.i2l, 1) := by decide +kernel
theorem dL_sum_17 : decode cL_sum 17 = .ok (.ldc2_w 145, 3) := by decide +kernel
theorem dL_sum_20 : decode cL_sum 20 = .ok (.aload_n 0, 1) := by decide +kernel
theorem dL_sum_21 : decode cL_sum 21 = .ok (.iconst 0, 1) := by decide +kernel
theorem dL_sum_22 : decode cL_sum 22 = .ok (.invokevirtual 147, 3) := by decide +kernel
theorem dL_sum_25 : decode cL_sum 25 = .ok (.i2l, 1) := by decide +kernel
theorem dL_sum_26 : decode cL_sum 26 = .ok (.lmul, 1) := by decide +kernel
theorem dL_sum_27 : decode cL_sum 27 = .ok (.ladd, 1) := by decide +kernel
theorem dL_sum_28 : decode cL_sum 28 = .ok (.ldc2_w 151, 3) := by decide +kernel
theorem dL_sum_31 : decode cL_sum 31 = .ok (.aload_n 0, 1) := by decide +kernel
theorem dL_sum_32 : decode cL_sum 32 = .ok (.iconst 1, 1) := by decide +kernel
theorem dL_sum_33 : decode cL_sum 33 = .ok (.invokevirtual 147, 3) := by decide +kernel
theorem dL_sum_36 : decode cL_sum 36 = .ok (.i2l, 1) := by decide +kernel
theorem dL_sum_37 : decode cL_sum 37 = .ok (.lmul, 1) := by decide +kernel
theorem dL_sum_38 : decode cL_sum 38 = .ok (.ladd, 1) := by decide +kernel
theorem dL_sum_39 : decode cL_sum 39 = .ok (.ldc2_w 153, 3) := by decide +kernel
theorem dL_sum_42 : decode cL_sum 42 = .ok (.aload_n 0, 1) := by decide +kernel
theorem dL_sum_43 : decode cL_sum 43 = .ok (.iconst 2, 1) := by decide +kernel
theorem dL_sum_44 : decode cL_sum 44 = .ok (.invokestatic 138, 3) := by decide +kernel
theorem dL_sum_47 : decode cL_sum 47 = .ok (.i2l, 1) := by decide +kernel
theorem dL_sum_48 : decode cL_sum 48 = .ok (.lmul, 1) := by decide +kernel
theorem dL_sum_49 : decode cL_sum 49 = .ok (.ladd, 1) := by decide +kernel
theorem dL_sum_50 : decode cL_sum 50 = .ok (.lstore_n 3, 1) := by decide +kernel
theorem dL_sum_51 : decode cL_sum 51 = .ok (.iconst 0, 1) := by decide +kernel
theorem dL_sum_52 : decode cL_sum 52 = .ok (.istore 5, 2) := by decide +kernel
theorem dL_sum_54 : decode cL_sum 54 = .ok (.iload 5, 2) := by decide +kernel
theorem dL_sum_56 : decode cL_sum 56 = .ok (.bipush 12, 2) := by decide +kernel
theorem dL_sum_58 : decode cL_sum 58 = .ok (.if_icmp .ge 24, 3) := by decide +kernel
theorem dL_sum_61 : decode cL_sum 61 = .ok (.ldc2_w 145, 3) := by decide +kernel
theorem dL_sum_64 : decode cL_sum 64 = .ok (.lload_n 3, 1) := by decide +kernel
theorem dL_sum_65 : decode cL_sum 65 = .ok (.lmul, 1) := by decide +kernel
theorem dL_sum_66 : decode cL_sum 66 = .ok (.aload_n 0, 1) := by decide +kernel
theorem dL_sum_67 : decode cL_sum 67 = .ok (.iload 5, 2) := by decide +kernel
theorem dL_sum_69 : decode cL_sum 69 = .ok (.iconst 2, 1) := by decide +kernel
theorem dL_sum_70 : decode cL_sum 70 = .ok (.invokestatic 125, 3) := by decide +kernel
theorem dL_sum_73 : decode cL_sum 73 = .ok (.i2l, 1) := by decide +kernel
theorem dL_sum_74 : decode cL_sum 74 = .ok (.ladd, 1) := by decide +kernel
theorem dL_sum_75 : decode cL_sum 75 = .ok (.lstore_n 3, 1) := by decide +kernel
theorem dL_sum_76 : decode cL_sum 76 = .ok (.iinc 5 1, 3) := by decide +kernel
theorem dL_sum_79 : decode cL_sum 79 = .ok (.goto (-25), 3) := by decide +kernel
theorem dL_sum_82 : decode cL_sum 82 = .ok (.iconst 0, 1) := by decide +kernel
theorem dL_sum_83 : decode cL_sum 83 = .ok (.istore 5, 2) := by decide +kernel
theorem dL_sum_85 : decode cL_sum 85 = .ok (.iload 5, 2) := by decide +kernel
theorem dL_sum_87 : decode cL_sum 87 = .ok (.iload_n 1, 1) := by decide +kernel
theorem dL_sum_88 : decode cL_sum 88 = .ok (.if_icmp .ge 37, 3) := by decide +kernel
theorem dL_sum_91 : decode cL_sum 91 = .ok (.ldc2_w 145, 3) := by decide +kernel
theorem dL_sum_94 : decode cL_sum 94 = .ok (.lload_n 3, 1) := by decide +kernel
theorem dL_sum_95 : decode cL_sum 95 = .ok (.lmul, 1) := by decide +kernel
theorem dL_sum_96 : decode cL_sum 96 = .ok (.aload_n 0, 1) := by decide +kernel
theorem dL_sum_97 : decode cL_sum 97 = .ok (.iload 5, 2) := by decide +kernel
theorem dL_sum_99 : decode cL_sum 99 = .ok (.iconst 0, 1) := by decide +kernel
theorem dL_sum_100 : decode cL_sum 100 = .ok (.invokestatic 125, 3) := by decide +kernel
theorem dL_sum_103 : decode cL_sum 103 = .ok (.i2l, 1) := by decide +kernel
theorem dL_sum_104 : decode cL_sum 104 = .ok (.ladd, 1) := by decide +kernel
theorem dL_sum_105 : decode cL_sum 105 = .ok (.ldc2_w 155, 3) := by decide +kernel
theorem dL_sum_108 : decode cL_sum 108 = .ok (.aload_n 0, 1) := by decide +kernel
theorem dL_sum_109 : decode cL_sum 109 = .ok (.iload 5, 2) := by decide +kernel
theorem dL_sum_111 : decode cL_sum 111 = .ok (.iconst 1, 1) := by decide +kernel
theorem dL_sum_112 : decode cL_sum 112 = .ok (.invokestatic 125, 3) := by decide +kernel
theorem dL_sum_115 : decode cL_sum 115 = .ok (.i2l, 1) := by decide +kernel
theorem dL_sum_116 : decode cL_sum 116 = .ok (.lmul, 1) := by decide +kernel
theorem dL_sum_117 : decode cL_sum 117 = .ok (.ladd, 1) := by decide +kernel
theorem dL_sum_118 : decode cL_sum 118 = .ok (.lstore_n 3, 1) := by decide +kernel
theorem dL_sum_119 : decode cL_sum 119 = .ok (.iinc 5 1, 3) := by decide +kernel
theorem dL_sum_122 : decode cL_sum 122 = .ok (.goto (-37), 3) := by decide +kernel
theorem dL_sum_125 : decode cL_sum 125 = .ok (.iconst 0, 1) := by decide +kernel
theorem dL_sum_126 : decode cL_sum 126 = .ok (.istore 5, 2) := by decide +kernel
theorem dL_sum_128 : decode cL_sum 128 = .ok (.iload 5, 2) := by decide +kernel
theorem dL_sum_130 : decode cL_sum 130 = .ok (.iload_n 2, 1) := by decide +kernel
theorem dL_sum_131 : decode cL_sum 131 = .ok (.if_icmp .ge 50, 3) := by decide +kernel
theorem dL_sum_134 : decode cL_sum 134 = .ok (.ldc2_w 145, 3) := by decide +kernel
theorem dL_sum_137 : decode cL_sum 137 = .ok (.lload_n 3, 1) := by decide +kernel
theorem dL_sum_138 : decode cL_sum 138 = .ok (.lmul, 1) := by decide +kernel
theorem dL_sum_139 : decode cL_sum 139 = .ok (.aload_n 0, 1) := by decide +kernel
theorem dL_sum_140 : decode cL_sum 140 = .ok (.iload 5, 2) := by decide +kernel
theorem dL_sum_142 : decode cL_sum 142 = .ok (.iconst 0, 1) := by decide +kernel
theorem dL_sum_143 : decode cL_sum 143 = .ok (.iconst 1, 1) := by decide +kernel
theorem dL_sum_144 : decode cL_sum 144 = .ok (.invokestatic 131, 3) := by decide +kernel
theorem dL_sum_147 : decode cL_sum 147 = .ok (.i2l, 1) := by decide +kernel
theorem dL_sum_148 : decode cL_sum 148 = .ok (.ladd, 1) := by decide +kernel
theorem dL_sum_149 : decode cL_sum 149 = .ok (.ldc2_w 155, 3) := by decide +kernel
theorem dL_sum_152 : decode cL_sum 152 = .ok (.aload_n 0, 1) := by decide +kernel
theorem dL_sum_153 : decode cL_sum 153 = .ok (.iload 5, 2) := by decide +kernel
theorem dL_sum_155 : decode cL_sum 155 = .ok (.invokestatic 157, 3) := by decide +kernel
theorem dL_sum_158 : decode cL_sum 158 = .ok (.lmul, 1) := by decide +kernel
theorem dL_sum_159 : decode cL_sum 159 = .ok (.ladd, 1) := by decide +kernel
theorem dL_sum_160 : decode cL_sum 160 = .ok (.ldc2_w 161, 3) := by decide +kernel
theorem dL_sum_163 : decode cL_sum 163 = .ok (.aload_n 0, 1) := by decide +kernel
theorem dL_sum_164 : decode cL_sum 164 = .ok (.iload 5, 2) := by decide +kernel
theorem dL_sum_166 : decode cL_sum 166 = .ok (.iconst 0, 1) := by decide +kernel
theorem dL_sum_167 : decode cL_sum 167 = .ok (.iconst 5, 1) := by decide +kernel
theorem dL_sum_168 : decode cL_sum 168 = .ok (.invokestatic 131, 3) := by decide +kernel
theorem dL_sum_171 : decode cL_sum 171 = .ok (.i2l, 1) := by decide +kernel
theorem dL_sum_172 : decode cL_sum 172 = .ok (.lmul, 1) := by decide +kernel
theorem dL_sum_173 : decode cL_sum 173 = .ok (.ladd, 1) := by decide +kernel
theorem dL_sum_174 : decode cL_sum 174 = .ok (.lstore_n 3, 1) := by decide +kernel
theorem dL_sum_175 : decode cL_sum 175 = .ok (.iinc 5 1, 3) := by decide +kernel
theorem dL_sum_178 : decode cL_sum 178 = .ok (.goto (-50), 3) := by decide +kernel
theorem dL_sum_181 : decode cL_sum 181 = .ok (.iconst 0, 1) := by decide +kernel
theorem dL_sum_182 : decode cL_sum 182 = .ok (.istore 5, 2) := by decide +kernel
theorem dL_sum_184 : decode cL_sum 184 = .ok (.iload 5, 2) := by decide +kernel
theorem dL_sum_186 : decode cL_sum 186 = .ok (.iconst 4, 1) := by decide +kernel
theorem dL_sum_187 : decode cL_sum 187 = .ok (.if_icmp .ge 41, 3) := by decide +kernel
theorem dL_sum_190 : decode cL_sum 190 = .ok (.iconst 0, 1) := by decide +kernel
theorem dL_sum_191 : decode cL_sum 191 = .ok (.istore 6, 2) := by decide +kernel
theorem dL_sum_193 : decode cL_sum 193 = .ok (.iload 6, 2) := by decide +kernel
theorem dL_sum_195 : decode cL_sum 195 = .ok (.bipush 8, 2) := by decide +kernel
theorem dL_sum_197 : decode cL_sum 197 = .ok (.if_icmp .ge 25, 3) := by decide +kernel
theorem dL_sum_200 : decode cL_sum 200 = .ok (.ldc2_w 145, 3) := by decide +kernel
theorem dL_sum_203 : decode cL_sum 203 = .ok (.lload_n 3, 1) := by decide +kernel
theorem dL_sum_204 : decode cL_sum 204 = .ok (.lmul, 1) := by decide +kernel
theorem dL_sum_205 : decode cL_sum 205 = .ok (.aload_n 0, 1) := by decide +kernel
theorem dL_sum_206 : decode cL_sum 206 = .ok (.iload 5, 2) := by decide +kernel
theorem dL_sum_208 : decode cL_sum 208 = .ok (.iload 6, 2) := by decide +kernel
theorem dL_sum_210 : decode cL_sum 210 = .ok (.invokestatic 135, 3) := by decide +kernel
theorem dL_sum_213 : decode cL_sum 213 = .ok (.i2l, 1) := by decide +kernel
theorem dL_sum_214 : decode cL_sum 214 = .ok (.ladd, 1) := by decide +kernel
theorem dL_sum_215 : decode cL_sum 215 = .ok (.lstore_n 3, 1) := by decide +kernel
theorem dL_sum_216 : decode cL_sum 216 = .ok (.iinc 6 1, 3) := by decide +kernel
theorem dL_sum_219 : decode cL_sum 219 = .ok (.goto (-26), 3) := by decide +kernel
theorem dL_sum_222 : decode cL_sum 222 = .ok (.iinc 5 1, 3) := by decide +kernel
theorem dL_sum_225 : decode cL_sum 225 = .ok (.goto (-41), 3) := by decide +kernel
theorem dL_sum_228 : decode cL_sum 228 = .ok (.ldc2_w 145, 3) := by decide +kernel
theorem dL_sum_231 : decode cL_sum 231 = .ok (.lload_n 3, 1) := by decide +kernel
theorem dL_sum_232 : decode cL_sum 232 = .ok (.lmul, 1) := by decide +kernel
theorem dL_sum_233 : decode cL_sum 233 = .ok (.aload_n 0, 1) := by decide +kernel
theorem dL_sum_234 : decode cL_sum 234 = .ok (.invokestatic 163, 3) := by decide +kernel
theorem dL_sum_237 : decode cL_sum 237 = .ok (.invokestatic 167, 3) := by decide +kernel
theorem dL_sum_240 : decode cL_sum 240 = .ok (.i2l, 1) := by decide +kernel
theorem dL_sum_241 : decode cL_sum 241 = .ok (.ladd, 1) := by decide +kernel
theorem dL_sum_242 : decode cL_sum 242 = .ok (.lreturn, 1) := by decide +kernel
theorem dL_isSound_0 : decode cL_isSound 0 = .ok (.aload_n 0, 1) := by decide +kernel
theorem dL_isSound_1 : decode cL_isSound 1 = .ok (.iconst 0, 1) := by decide +kernel
theorem dL_isSound_2 : decode cL_isSound 2 = .ok (.invokestatic 138, 3) := by decide +kernel
theorem dL_isSound_5 : decode cL_isSound 5 = .ok (.istore_n 1, 1) := by decide +kernel
theorem dL_isSound_6 : decode cL_isSound 6 = .ok (.aload_n 0, 1) := by decide +kernel
theorem dL_isSound_7 : decode cL_isSound 7 = .ok (.iconst 1, 1) := by decide +kernel
theorem dL_isSound_8 : decode cL_isSound 8 = .ok (.invokestatic 138, 3) := by decide +kernel
theorem dL_isSound_11 : decode cL_isSound 11 = .ok (.istore_n 2, 1) := by decide +kernel
theorem dL_isSound_12 : decode cL_isSound 12 = .ok (.iconst 0, 1) := by decide +kernel
theorem dL_isSound_13 : decode cL_isSound 13 = .ok (.istore_n 3, 1) := by decide +kernel
theorem dL_isSound_14 : decode cL_isSound 14 = .ok (.iload_n 3, 1) := by decide +kernel
theorem dL_isSound_15 : decode cL_isSound 15 = .ok (.aload_n 0, 1) := by decide +kernel
theorem dL_isSound_16 : decode cL_isSound 16 = .ok (.iconst 2, 1) := by decide +kernel
theorem dL_isSound_17 : decode cL_isSound 17 = .ok (.invokestatic 138, 3) := by decide +kernel
theorem dL_isSound_20 : decode cL_isSound 20 = .ok (.if_icmp .ge 129, 3) := by decide +kernel
theorem dL_isSound_23 : decode cL_isSound 23 = .ok (.iconst 0, 1) := by decide +kernel
theorem dL_isSound_24 : decode cL_isSound 24 = .ok (.istore 4, 2) := by decide +kernel
theorem dL_isSound_26 : decode cL_isSound 26 = .ok (.iload 4, 2) := by decide +kernel
theorem dL_isSound_28 : decode cL_isSound 28 = .ok (.iload_n 1, 1) := by decide +kernel
theorem dL_isSound_29 : decode cL_isSound 29 = .ok (.if_icmp .ge 114, 3) := by decide +kernel
theorem dL_isSound_32 : decode cL_isSound 32 = .ok (.aload_n 0, 1) := by decide +kernel
theorem dL_isSound_33 : decode cL_isSound 33 = .ok (.iload_n 3, 1) := by decide +kernel
theorem dL_isSound_34 : decode cL_isSound 34 = .ok (.iload 4, 2) := by decide +kernel
theorem dL_isSound_36 : decode cL_isSound 36 = .ok (.iconst 2, 1) := by decide +kernel
theorem dL_isSound_37 : decode cL_isSound 37 = .ok (.irem, 1) := by decide +kernel
theorem dL_isSound_38 : decode cL_isSound 38 = .ok (.ifCond .ne 7, 3) := by decide +kernel
theorem dL_isSound_41 : decode cL_isSound 41 = .ok (.iconst 1, 1) := by decide +kernel
theorem dL_isSound_42 : decode cL_isSound 42 = .ok (.goto 4, 3) := by decide +kernel
theorem dL_isSound_45 : decode cL_isSound 45 = .ok (.iconst 0, 1) := by decide +kernel
theorem dL_isSound_46 : decode cL_isSound 46 = .ok (.iload 4, 2) := by decide +kernel
theorem dL_isSound_48 : decode cL_isSound 48 = .ok (.iconst 0, 1) := by decide +kernel
theorem dL_isSound_49 : decode cL_isSound 49 = .ok (.invokestatic 173, 3) := by decide +kernel
theorem dL_isSound_52 : decode cL_isSound 52 = .ok (.istore 5, 2) := by decide +kernel
theorem dL_isSound_54 : decode cL_isSound 54 = .ok (.aload_n 0, 1) := by decide +kernel
theorem dL_isSound_55 : decode cL_isSound 55 = .ok (.iload 4, 2) := by decide +kernel
theorem dL_isSound_57 : decode cL_isSound 57 = .ok (.iconst 1, 1) := by decide +kernel
theorem dL_isSound_58 : decode cL_isSound 58 = .ok (.invokestatic 125, 3) := by decide +kernel
theorem dL_isSound_61 : decode cL_isSound 61 = .ok (.bipush 45, 2) := by decide +kernel
theorem dL_isSound_63 : decode cL_isSound 63 = .ok (.if_icmp .eq 7, 3) := by decide +kernel
theorem dL_isSound_66 : decode cL_isSound 66 = .ok (.iconst 1, 1) := by decide +kernel
theorem dL_isSound_67 : decode cL_isSound 67 = .ok (.goto 4, 3) := by decide +kernel
theorem dL_isSound_70 : decode cL_isSound 70 = .ok (.iconst 0, 1) := by decide +kernel
theorem dL_isSound_71 : decode cL_isSound 71 = .ok (.istore 6, 2) := by decide +kernel
theorem dL_isSound_73 : decode cL_isSound 73 = .ok (.iload 5, 2) := by decide +kernel
theorem dL_isSound_75 : decode cL_isSound 75 = .ok (.aload_n 0, 1) := by decide +kernel
theorem dL_isSound_76 : decode cL_isSound 76 = .ok (.iload_n 3, 1) := by decide +kernel
theorem dL_isSound_77 : decode cL_isSound 77 = .ok (.iload 4, 2) := by decide +kernel
theorem dL_isSound_79 : decode cL_isSound 79 = .ok (.iconst 2, 1) := by decide +kernel
theorem dL_isSound_80 : decode cL_isSound 80 = .ok (.irem, 1) := by decide +kernel
theorem dL_isSound_81 : decode cL_isSound 81 = .ok (.ifCond .ne 7, 3) := by decide +kernel
theorem dL_isSound_84 : decode cL_isSound 84 = .ok (.iconst 1, 1) := by decide +kernel
theorem dL_isSound_85 : decode cL_isSound 85 = .ok (.goto 4, 3) := by decide +kernel
theorem dL_isSound_88 : decode cL_isSound 88 = .ok (.iconst 0, 1) := by decide +kernel
theorem dL_isSound_89 : decode cL_isSound 89 = .ok (.iload 4, 2) := by decide +kernel
theorem dL_isSound_91 : decode cL_isSound 91 = .ok (.iconst 1, 1) := by decide +kernel
theorem dL_isSound_92 : decode cL_isSound 92 = .ok (.invokestatic 173, 3) := by decide +kernel
theorem dL_isSound_95 : decode cL_isSound 95 = .ok (.if_icmp .ne 40, 3) := by decide +kernel
theorem dL_isSound_98 : decode cL_isSound 98 = .ok (.iload 5, 2) := by decide +kernel
theorem dL_isSound_100 : decode cL_isSound 100 = .ok (.bipush 115, 2) := by decide +kernel
theorem dL_isSound_102 : decode cL_isSound 102 = .ok (.if_icmp .ne 7, 3) := by decide +kernel
theorem dL_isSound_105 : decode cL_isSound 105 = .ok (.iconst 1, 1) := by decide +kernel
theorem dL_isSound_106 : decode cL_isSound 106 = .ok (.goto 4, 3) := by decide +kernel
theorem dL_isSound_109 : decode cL_isSound 109 = .ok (.iconst 0, 1) := by decide +kernel
theorem dL_isSound_110 : decode cL_isSound 110 = .ok (.iload 6, 2) := by decide +kernel
theorem dL_isSound_112 : decode cL_isSound 112 = .ok (.if_icmp .ne 23, 3) := by decide +kernel
theorem dL_isSound_115 : decode cL_isSound 115 = .ok (.iload 5, 2) := by decide +kernel
theorem dL_isSound_117 : decode cL_isSound 117 = .ok (.bipush 104, 2) := by decide +kernel
theorem dL_isSound_119 : decode cL_isSound 119 = .ok (.if_icmp .ne 11, 3) := by decide +kernel
theorem dL_isSound_122 : decode cL_isSound 122 = .ok (.iload 4, 2) := by decide +kernel
theorem dL_isSound_124 : decode cL_isSound 124 = .ok (.iconst 2, 1) := by decide +kernel
theorem dL_isSound_125 : decode cL_isSound 125 = .ok (.irem, 1) := by decide +kernel
theorem dL_isSound_126 : decode cL_isSound 126 = .ok (.iconst 1, 1) := by decide +kernel
theorem dL_isSound_127 : decode cL_isSound 127 = .ok (.if_icmp .eq 8, 3) := by decide +kernel
theorem dL_isSound_130 : decode cL_isSound 130 = .ok (.iload 5, 2) := by decide +kernel
theorem dL_isSound_132 : decode cL_isSound 132 = .ok (.ifCond .ge 5, 3) := by decide +kernel
theorem dL_isSound_135 : decode cL_isSound 135 = .ok (.iconst 0, 1) := by decide +kernel
theorem dL_isSound_136 : decode cL_isSound 136 = .ok (.ireturn, 1) := by decide +kernel
theorem dL_isSound_137 : decode cL_isSound 137 = .ok (.iinc 4 1, 3) := by decide +kernel
theorem dL_isSound_140 : decode cL_isSound 140 = .ok (.goto (-114), 3) := by decide +kernel
theorem dL_isSound_143 : decode cL_isSound 143 = .ok (.iinc 3 1, 3) := by decide +kernel
theorem dL_isSound_146 : decode cL_isSound 146 = .ok (.goto (-132), 3) := by decide +kernel
theorem dL_isSound_149 : decode cL_isSound 149 = .ok (.iconst 0, 1) := by decide +kernel
theorem dL_isSound_150 : decode cL_isSound 150 = .ok (.istore_n 3, 1) := by decide +kernel
theorem dL_isSound_151 : decode cL_isSound 151 = .ok (.iload_n 3, 1) := by decide +kernel
theorem dL_isSound_152 : decode cL_isSound 152 = .ok (.iload_n 2, 1) := by decide +kernel
theorem dL_isSound_153 : decode cL_isSound 153 = .ok (.if_icmp .ge 339, 3) := by decide +kernel
theorem dL_isSound_156 : decode cL_isSound 156 = .ok (.aload_n 0, 1) := by decide +kernel
theorem dL_isSound_157 : decode cL_isSound 157 = .ok (.iload_n 3, 1) := by decide +kernel
theorem dL_isSound_158 : decode cL_isSound 158 = .ok (.iconst 0, 1) := by decide +kernel
theorem dL_isSound_159 : decode cL_isSound 159 = .ok (.iconst 1, 1) := by decide +kernel
theorem dL_isSound_160 : decode cL_isSound 160 = .ok (.invokestatic 131, 3) := by decide +kernel
theorem dL_isSound_163 : decode cL_isSound 163 = .ok (.istore 4, 2) := by decide +kernel
theorem dL_isSound_165 : decode cL_isSound 165 = .ok (.iconst 0, 1) := by decide +kernel
theorem dL_isSound_166 : decode cL_isSound 166 = .ok (.istore 5, 2) := by decide +kernel
theorem dL_isSound_168 : decode cL_isSound 168 = .ok (.iconst 0, 1) := by decide +kernel
theorem dL_isSound_169 : decode cL_isSound 169 = .ok (.istore 6, 2) := by decide +kernel
theorem dL_isSound_171 : decode cL_isSound 171 = .ok (.lconst 0, 1) := by decide +kernel
theorem dL_isSound_172 : decode cL_isSound 172 = .ok (.lstore 7, 2) := by decide +kernel
theorem dL_isSound_174 : decode cL_isSound 174 = .ok (.iconst 0, 1) := by decide +kernel
theorem dL_isSound_175 : decode cL_isSound 175 = .ok (.istore 9, 2) := by decide +kernel
theorem dL_isSound_177 : decode cL_isSound 177 = .ok (.iload 9, 2) := by decide +kernel
theorem dL_isSound_179 : decode cL_isSound 179 = .ok (.iload_n 1, 1) := by decide +kernel
theorem dL_isSound_180 : decode cL_isSound 180 = .ok (.if_icmp .ge 90, 3) := by decide +kernel
theorem dL_isSound_183 : decode cL_isSound 183 = .ok (.aload_n 0, 1) := by decide +kernel
theorem dL_isSound_184 : decode cL_isSound 184 = .ok (.iload_n 3, 1) := by decide +kernel
theorem dL_isSound_185 : decode cL_isSound 185 = .ok (.iload 9, 2) := by decide +kernel
theorem dL_isSound_187 : decode cL_isSound 187 = .ok (.iconst 0, 1) := by decide +kernel
theorem dL_isSound_188 : decode cL_isSound 188 = .ok (.invokestatic 131, 3) := by decide +kernel
theorem dL_isSound_191 : decode cL_isSound 191 = .ok (.bipush 108, 2) := by decide +kernel
theorem dL_isSound_193 : decode cL_isSound 193 = .ok (.if_icmp .ne 7, 3) := by decide +kernel
theorem dL_isSound_196 : decode cL_isSound 196 = .ok (.iconst 1, 1) := by decide +kernel
theorem dL_isSound_197 : decode cL_isSound 197 = .ok (.goto 4, 3) := by decide +kernel
theorem dL_isSound_200 : decode cL_isSound 200 = .ok (.iconst 0, 1) := by decide +kernel
theorem dL_isSound_201 : decode cL_isSound 201 = .ok (.istore 10, 2) := by decide +kernel
theorem dL_isSound_203 : decode cL_isSound 203 = .ok (.iload 5, 2) := by decide +kernel
theorem dL_isSound_205 : decode cL_isSound 205 = .ok (.iload 10, 2) := by decide +kernel
theorem dL_isSound_207 : decode cL_isSound 207 = .ok (.ifCond .eq 7, 3) := by decide +kernel
theorem dL_isSound_210 : decode cL_isSound 210 = .ok (.iconst 1, 1) := by decide +kernel
theorem dL_isSound_211 : decode cL_isSound 211 = .ok (.goto 4, 3) := by decide +kernel
theorem dL_isSound_214 : decode cL_isSound 214 = .ok (.iconst 0, 1) := by decide +kernel
theorem dL_isSound_215 : decode cL_isSound 215 = .ok (.iadd, 1) := by decide +kernel
theorem dL_isSound_216 : decode cL_isSound 216 = .ok (.istore 5, 2) := by decide +kernel
theorem dL_isSound_218 : decode cL_isSound 218 = .ok (.lload 7, 2) := by decide +kernel
theorem dL_isSound_220 : decode cL_isSound 220 = .ok (.iload 10, 2) := by decide +kernel
theorem dL_isSound_222 : decode cL_isSound 222 = .ok (.ifCond .eq 15, 3) := by decide +kernel
theorem dL_isSound_225 : decode cL_isSound 225 = .ok (.aload_n 0, 1) := by decide +kernel
theorem dL_isSound_226 : decode cL_isSound 226 = .ok (.iload_n 3, 1) := by decide +kernel
theorem dL_isSound_227 : decode cL_isSound 227 = .ok (.iload 9, 2) := by decide +kernel
theorem dL_isSound_229 : decode cL_isSound 229 = .ok (.iconst 4, 1) := by decide +kernel
theorem dL_isSound_230 : decode cL_isSound 230 = .ok (.invokestatic 131, 3) := by decide +kernel
theorem dL_isSound_233 : decode cL_isSound 233 = .ok (.i2l, 1) := by decide +kernel
theorem dL_isSound_234 : decode cL_isSound 234 = .ok (.goto 4, 3) := by decide +kernel
theorem dL_isSound_237 : decode cL_isSound 237 = .ok (.lconst 0, 1) := by decide +kernel
theorem dL_isSound_238 : decode cL_isSound 238 = .ok (.ladd, 1) := by decide +kernel
theorem dL_isSound_239 : decode cL_isSound 239 = .ok (.lstore 7, 2) := by decide +kernel
theorem dL_isSound_241 : decode cL_isSound 241 = .ok (.iload 10, 2) := by decide +kernel
theorem dL_isSound_243 : decode cL_isSound 243 = .ok (.aload_n 0, 1) := by decide +kernel
theorem dL_isSound_244 : decode cL_isSound 244 = .ok (.iload_n 3, 1) := by decide +kernel
theorem dL_isSound_245 : decode cL_isSound 245 = .ok (.iload 9, 2) := by decide +kernel
theorem dL_isSound_247 : decode cL_isSound 247 = .ok (.iconst 4, 1) := by decide +kernel
theorem dL_isSound_248 : decode cL_isSound 248 = .ok (.invokestatic 131, 3) := by decide +kernel
theorem dL_isSound_251 : decode cL_isSound 251 = .ok (.ifCond .lt 7, 3) := by decide +kernel
theorem dL_isSound_254 : decode cL_isSound 254 = .ok (.iconst 1, 1) := by decide +kernel
theorem dL_isSound_255 : decode cL_isSound 255 = .ok (.goto 4, 3) := by decide +kernel
theorem dL_isSound_258 : decode cL_isSound 258 = .ok (.iconst 0, 1) := by decide +kernel
theorem dL_isSound_259 : decode cL_isSound 259 = .ok (.if_icmp .eq 5, 3) := by decide +kernel
theorem dL_isSound_262 : decode cL_isSound 262 = .ok (.iconst 0, 1) := by decide +kernel
theorem dL_isSound_263 : decode cL_isSound 263 = .ok (.ireturn, 1) := by decide +kernel
theorem dL_isSound_264 : decode cL_isSound 264 = .ok (.iinc 9 1, 3) := by decide +kernel
theorem dL_isSound_267 : decode cL_isSound 267 = .ok (.goto (-90), 3) := by decide +kernel
theorem dL_isSound_270 : decode cL_isSound 270 = .ok (.iconst 0, 1) := by decide +kernel
theorem dL_isSound_271 : decode cL_isSound 271 = .ok (.istore 9, 2) := by decide +kernel
theorem dL_isSound_273 : decode cL_isSound 273 = .ok (.iload 9, 2) := by decide +kernel
theorem dL_isSound_275 : decode cL_isSound 275 = .ok (.bipush 10, 2) := by decide +kernel
theorem dL_isSound_277 : decode cL_isSound 277 = .ok (.if_icmp .ge 22, 3) := by decide +kernel
theorem dL_isSound_280 : decode cL_isSound 280 = .ok (.iload 6, 2) := by decide +kernel
theorem dL_isSound_282 : decode cL_isSound 282 = .ok (.aload_n 0, 1) := by decide +kernel
theorem dL_isSound_283 : decode cL_isSound 283 = .ok (.iload_n 3, 1) := by decide +kernel
theorem dL_isSound_284 : decode cL_isSound 284 = .ok (.iload 9, 2) := by decide +kernel
theorem dL_isSound_286 : decode cL_isSound 286 = .ok (.iconst 3, 1) := by decide +kernel
theorem dL_isSound_287 : decode cL_isSound 287 = .ok (.invokestatic 131, 3) := by decide +kernel
theorem dL_isSound_290 : decode cL_isSound 290 = .ok (.iadd, 1) := by decide +kernel
theorem dL_isSound_291 : decode cL_isSound 291 = .ok (.istore 6, 2) := by decide +kernel
theorem dL_isSound_293 : decode cL_isSound 293 = .ok (.iinc 9 1, 3) := by decide +kernel
theorem dL_isSound_296 : decode cL_isSound 296 = .ok (.goto (-23), 3) := by decide +kernel
theorem dL_isSound_299 : decode cL_isSound 299 = .ok (.bipush 24, 2) := by decide +kernel
theorem dL_isSound_301 : decode cL_isSound 301 = .ok (.newarray .boolean, 2) := by decide +kernel
theorem dL_isSound_303 : decode cL_isSound 303 = .ok (.astore 9, 2) := by decide +kernel
theorem dL_isSound_305 : decode cL_isSound 305 = .ok (.iconst 0, 1) := by decide +kernel
theorem dL_isSound_306 : decode cL_isSound 306 = .ok (.istore 10, 2) := by decide +kernel
theorem dL_isSound_308 : decode cL_isSound 308 = .ok (.iload 10, 2) := by decide +kernel
theorem dL_isSound_310 : decode cL_isSound 310 = .ok (.iload 4, 2) := by decide +kernel
theorem dL_isSound_312 : decode cL_isSound 312 = .ok (.if_icmp .ge 53, 3) := by decide +kernel
theorem dL_isSound_315 : decode cL_isSound 315 = .ok (.aload_n 0, 1) := by decide +kernel
theorem dL_isSound_316 : decode cL_isSound 316 = .ok (.iload_n 3, 1) := by decide +kernel
theorem dL_isSound_317 : decode cL_isSound 317 = .ok (.iload 10, 2) := by decide +kernel
theorem dL_isSound_319 : decode cL_isSound 319 = .ok (.iconst 2, 1) := by decide +kernel
theorem dL_isSound_320 : decode cL_isSound 320 = .ok (.invokestatic 131, 3) := by decide +kernel
theorem dL_isSound_323 : decode cL_isSound 323 = .ok (.istore 11, 2) := by decide +kernel
theorem dL_isSound_325 : decode cL_isSound 325 = .ok (.iload 11, 2) := by decide +kernel
theorem dL_isSound_327 : decode cL_isSound 327 = .ok (.ifCond .lt 24, 3) := by decide +kernel
theorem dL_isSound_330 : decode cL_isSound 330 = .ok (.aload 9, 2) := by decide +kernel
theorem dL_isSound_332 : decode cL_isSound 332 = .ok (.iload 11, 2) := by decide +kernel
theorem dL_isSound_334 : decode cL_isSound 334 = .ok (.baload, 1) := by decide +kernel
theorem dL_isSound_335 : decode cL_isSound 335 = .ok (.ifCond .ne 16, 3) := by decide +kernel
theorem dL_isSound_338 : decode cL_isSound 338 = .ok (.aload_n 0, 1) := by decide +kernel
theorem dL_isSound_339 : decode cL_isSound 339 = .ok (.iload_n 3, 1) := by decide +kernel
theorem dL_isSound_340 : decode cL_isSound 340 = .ok (.iload 11, 2) := by decide +kernel
theorem dL_isSound_342 : decode cL_isSound 342 = .ok (.iconst 0, 1) := by decide +kernel
theorem dL_isSound_343 : decode cL_isSound 343 = .ok (.invokestatic 131, 3) := by decide +kernel
theorem dL_isSound_346 : decode cL_isSound 346 = .ok (.bipush 108, 2) := by decide +kernel
theorem dL_isSound_348 : decode cL_isSound 348 = .ok (.if_icmp .eq 5, 3) := by decide +kernel
theorem dL_isSound_351 : decode cL_isSound 351 = .ok (.iconst 0, 1) := by decide +kernel
theorem dL_isSound_352 : decode cL_isSound 352 = .ok (.ireturn, 1) := by decide +kernel
theorem dL_isSound_353 : decode cL_isSound 353 = .ok (.aload 9, 2) := by decide +kernel
theorem dL_isSound_355 : decode cL_isSound 355 = .ok (.iload 11, 2) := by decide +kernel
theorem dL_isSound_357 : decode cL_isSound 357 = .ok (.iconst 1, 1) := by decide +kernel
theorem dL_isSound_358 : decode cL_isSound 358 = .ok (.bastore, 1) := by decide +kernel
theorem dL_isSound_359 : decode cL_isSound 359 = .ok (.iinc 10 1, 3) := by decide +kernel
theorem dL_isSound_362 : decode cL_isSound 362 = .ok (.goto (-54), 3) := by decide +kernel
theorem dL_isSound_365 : decode cL_isSound 365 = .ok (.iconst 0, 1) := by decide +kernel
theorem dL_isSound_366 : decode cL_isSound 366 = .ok (.istore 10, 2) := by decide +kernel
theorem dL_isSound_368 : decode cL_isSound 368 = .ok (.iload 10, 2) := by decide +kernel
theorem dL_isSound_370 : decode cL_isSound 370 = .ok (.bipush 9, 2) := by decide +kernel
theorem dL_isSound_372 : decode cL_isSound 372 = .ok (.if_icmp .ge 36, 3) := by decide +kernel
theorem dL_isSound_375 : decode cL_isSound 375 = .ok (.aload_n 0, 1) := by decide +kernel
theorem dL_isSound_376 : decode cL_isSound 376 = .ok (.iload_n 3, 1) := by decide +kernel
theorem dL_isSound_377 : decode cL_isSound 377 = .ok (.iload 10, 2) := by decide +kernel
theorem dL_isSound_379 : decode cL_isSound 379 = .ok (.iconst 5, 1) := by decide +kernel
theorem dL_isSound_380 : decode cL_isSound 380 = .ok (.invokestatic 131, 3) := by decide +kernel
theorem dL_isSound_383 : decode cL_isSound 383 = .ok (.ifCond .lt 25, 3) := by decide +kernel
theorem dL_isSound_386 : decode cL_isSound 386 = .ok (.aload 9, 2) := by decide +kernel
theorem dL_isSound_388 : decode cL_isSound 388 = .ok (.aload_n 0, 1) := by decide +kernel
theorem dL_isSound_389 : decode cL_isSound 389 = .ok (.iload_n 3, 1) := by decide +kernel
theorem dL_isSound_390 : decode cL_isSound 390 = .ok (.iload 10, 2) := by decide +kernel
theorem dL_isSound_392 : decode cL_isSound 392 = .ok (.iconst 5, 1) := by decide +kernel
theorem dL_isSound_393 : decode cL_isSound 393 = .ok (.invokestatic 131, 3) := by decide +kernel
theorem dL_isSound_396 : decode cL_isSound 396 = .ok (.baload, 1) := by decide +kernel
theorem dL_isSound_397 : decode cL_isSound 397 = .ok (.ifCond .ne 5, 3) := by decide +kernel
theorem dL_isSound_400 : decode cL_isSound 400 = .ok (.iconst 0, 1) := by decide +kernel
theorem dL_isSound_401 : decode cL_isSound 401 = .ok (.ireturn, 1) := by decide +kernel
theorem dL_isSound_402 : decode cL_isSound 402 = .ok (.iinc 10 1, 3) := by decide +kernel
theorem dL_isSound_405 : decode cL_isSound 405 = .ok (.goto (-37), 3) := by decide +kernel
theorem dL_isSound_408 : decode cL_isSound 408 = .ok (.iload 5, 2) := by decide +kernel
theorem dL_isSound_410 : decode cL_isSound 410 = .ok (.iload 4, 2) := by decide +kernel
theorem dL_isSound_412 : decode cL_isSound 412 = .ok (.if_icmp .ne 72, 3) := by decide +kernel
theorem dL_isSound_415 : decode cL_isSound 415 = .ok (.iload 6, 2) := by decide +kernel
theorem dL_isSound_417 : decode cL_isSound 417 = .ok (.iload 4, 2) := by decide +kernel
theorem dL_isSound_419 : decode cL_isSound 419 = .ok (.if_icmp .ne 65, 3) := by decide +kernel
theorem dL_isSound_422 : decode cL_isSound 422 = .ok (.aload_n 0, 1) := by decide +kernel
theorem dL_isSound_423 : decode cL_isSound 423 = .ok (.iload_n 3, 1) := by decide +kernel
theorem dL_isSound_424 : decode cL_isSound 424 = .ok (.invokestatic 157, 3) := by decide +kernel
theorem dL_isSound_427 : decode cL_isSound 427 = .ok (.lload 7, 2) := by decide +kernel
theorem dL_isSound_429 : decode cL_isSound 429 = .ok (.lcmp, 1) := by decide +kernel
theorem dL_isSound_430 : decode cL_isSound 430 = .ok (.ifCond .ne 54, 3) := by decide +kernel
theorem dL_isSound_433 : decode cL_isSound 433 = .ok (.aload_n 0, 1) := by decide +kernel
theorem dL_isSound_434 : decode cL_isSound 434 = .ok (.iload_n 3, 1) := by decide +kernel
theorem dL_isSound_435 : decode cL_isSound 435 = .ok (.iload 4, 2) := by decide +kernel
theorem dL_isSound_437 : decode cL_isSound 437 = .ok (.iconst 2, 1) := by decide +kernel
theorem dL_isSound_438 : decode cL_isSound 438 = .ok (.invokestatic 131, 3) := by decide +kernel
theorem dL_isSound_441 : decode cL_isSound 441 = .ok (.sipush (-1002), 3) := by decide +kernel
theorem dL_isSound_444 : decode cL_isSound 444 = .ok (.if_icmp .ne 40, 3) := by decide +kernel
theorem dL_isSound_447 : decode cL_isSound 447 = .ok (.iload 10, 2) := by decide +kernel
theorem dL_isSound_449 : decode cL_isSound 449 = .ok (.bipush 8, 2) := by decide +kernel
theorem dL_isSound_451 : decode cL_isSound 451 = .ok (.if_icmp .gt 33, 3) := by decide +kernel
theorem dL_isSound_454 : decode cL_isSound 454 = .ok (.iload 10, 2) := by decide +kernel
theorem dL_isSound_456 : decode cL_isSound 456 = .ok (.iload 4, 2) := by decide +kernel
theorem dL_isSound_458 : decode cL_isSound 458 = .ok (.if_icmp .gt 26, 3) := by decide +kernel
theorem dL_isSound_461 : decode cL_isSound 461 = .ok (.iload 10, 2) := by decide +kernel
theorem dL_isSound_463 : decode cL_isSound 463 = .ok (.ifCond .ne 7, 3) := by decide +kernel
theorem dL_isSound_466 : decode cL_isSound 466 = .ok (.iconst 1, 1) := by decide +kernel
theorem dL_isSound_467 : decode cL_isSound 467 = .ok (.goto 4, 3) := by decide +kernel
theorem dL_isSound_470 : decode cL_isSound 470 = .ok (.iconst 0, 1) := by decide +kernel
theorem dL_isSound_471 : decode cL_isSound 471 = .ok (.iload 4, 2) := by decide +kernel
theorem dL_isSound_473 : decode cL_isSound 473 = .ok (.ifCond .ne 7, 3) := by decide +kernel
theorem dL_isSound_476 : decode cL_isSound 476 = .ok (.iconst 1, 1) := by decide +kernel
theorem dL_isSound_477 : decode cL_isSound 477 = .ok (.goto 4, 3) := by decide +kernel
theorem dL_isSound_480 : decode cL_isSound 480 = .ok (.iconst 0, 1) := by decide +kernel
theorem dL_isSound_481 : decode cL_isSound 481 = .ok (.if_icmp .eq 5, 3) := by decide +kernel
theorem dL_isSound_484 : decode cL_isSound 484 = .ok (.iconst 0, 1) := by decide +kernel
theorem dL_isSound_485 : decode cL_isSound 485 = .ok (.ireturn, 1) := by decide +kernel
theorem dL_isSound_486 : decode cL_isSound 486 = .ok (.iinc 3 1, 3) := by decide +kernel
theorem dL_isSound_489 : decode cL_isSound 489 = .ok (.goto (-338), 3) := by decide +kernel
theorem dL_isSound_492 : decode cL_isSound 492 = .ok (.aload_n 0, 1) := by decide +kernel
theorem dL_isSound_493 : decode cL_isSound 493 = .ok (.invokestatic 163, 3) := by decide +kernel
theorem dL_isSound_496 : decode cL_isSound 496 = .ok (.fconst 1, 1) := by decide +kernel
theorem dL_isSound_497 : decode cL_isSound 497 = .ok (.fcmp .g, 1) := by decide +kernel
theorem dL_isSound_498 : decode cL_isSound 498 = .ok (.ifCond .gt 48, 3) := by decide +kernel
theorem dL_isSound_501 : decode cL_isSound 501 = .ok (.aload_n 0, 1) := by decide +kernel
theorem dL_isSound_502 : decode cL_isSound 502 = .ok (.invokestatic 176, 3) := by decide +kernel
theorem dL_isSound_505 : decode cL_isSound 505 = .ok (.ldc2_w 180, 3) := by decide +kernel
theorem dL_isSound_508 : decode cL_isSound 508 = .ok (.dcmp .g, 1) := by decide +kernel
theorem dL_isSound_509 : decode cL_isSound 509 = .ok (.ifCond .gt 37, 3) := by decide +kernel
theorem dL_isSound_512 : decode cL_isSound 512 = .ok (.aload_n 0, 1) := by decide +kernel
theorem dL_isSound_513 : decode cL_isSound 513 = .ok (.invokevirtual 142, 3) := by decide +kernel
theorem dL_isSound_516 : decode cL_isSound 516 = .ok (.ifCond .lt 30, 3) := by decide +kernel
theorem dL_isSound_519 : decode cL_isSound 519 = .ok (.aload_n 0, 1) := by decide +kernel
theorem dL_isSound_520 : decode cL_isSound 520 = .ok (.iconst 0, 1) := by decide +kernel
theorem dL_isSound_521 : decode cL_isSound 521 = .ok (.invokevirtual 147, 3) := by decide +kernel
theorem dL_isSound_524 : decode cL_isSound 524 = .ok (.ifCond .lt 22, 3) := by decide +kernel
theorem dL_isSound_527 : decode cL_isSound 527 = .ok (.aload_n 0, 1) := by decide +kernel
theorem dL_isSound_528 : decode cL_isSound 528 = .ok (.iconst 1, 1) := by decide +kernel
theorem dL_isSound_529 : decode cL_isSound 529 = .ok (.invokevirtual 147, 3) := by decide +kernel
theorem dL_isSound_532 : decode cL_isSound 532 = .ok (.ifCond .lt 14, 3) := by decide +kernel
theorem dL_isSound_535 : decode cL_isSound 535 = .ok (.aload_n 0, 1) := by decide +kernel
theorem dL_isSound_536 : decode cL_isSound 536 = .ok (.invokevirtual 182, 3) := by decide +kernel
theorem dL_isSound_539 : decode cL_isSound 539 = .ok (.ifCond .eq 7, 3) := by decide +kernel
theorem dL_isSound_542 : decode cL_isSound 542 = .ok (.iconst 1, 1) := by decide +kernel
theorem dL_isSound_543 : decode cL_isSound 543 = .ok (.goto 4, 3) := by decide +kernel
theorem dL_isSound_546 : decode cL_isSound 546 = .ok (.iconst 0, 1) := by decide +kernel
theorem dL_isSound_547 : decode cL_isSound 547 = .ok (.ireturn, 1) := by decide +kernel
