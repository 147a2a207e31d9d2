theorem dX0_init_0 : decode cX0_init 0 = .ok (.aload_n 0, 1) := by decide +kernel
theorem dX0_init_1 : decode cX0_init 1 = .ok (.invokespecial 1, 3) := by decide +kernel
theorem dX0_init_4 : decode cX0_init 4 = .ok (.aload_n 0, 1) := by decide +kernel
theorem dX0_init_5 : decode cX0_init 5 = .ok (.iload_n 1, 1) := by decide +kernel
theorem dX0_init_6 : decode cX0_init 6 = .ok (.putfield 7, 3) := by decide +kernel
theorem dX0_init_9 : decode cX0_init 9 = .ok (.aload_n 0, 1) := by decide +kernel
theorem dX0_init_10 : decode cX0_init 10 = .ok (.iload_n 2, 1) := by decide +kernel
theorem dX0_init_11 : decode cX0_init 11 = .ok (.putfield 13, 3) := by decide +kernel
theorem dX0_init_14 : decode cX0_init 14 = .ok (.return_, 1) := by decide +kernel
theorem dX0_beginDraft_0 : decode cX0_beginDraft 0 = .ok (.aload_n 0, 1) := by decide +kernel
theorem dX0_beginDraft_1 : decode cX0_beginDraft 1 = .ok (.aload_n 0, 1) := by decide +kernel
theorem dX0_beginDraft_2 : decode cX0_beginDraft 2 = .ok (.getfield 16, 3) := by decide +kernel
theorem dX0_beginDraft_5 : decode cX0_beginDraft 5 = .ok (.putfield 19, 3) := by decide +kernel
theorem dX0_beginDraft_8 : decode cX0_beginDraft 8 = .ok (.aload_n 0, 1) := by decide +kernel
theorem dX0_beginDraft_9 : decode cX0_beginDraft 9 = .ok (.iconst 0, 1) := by decide +kernel
theorem dX0_beginDraft_10 : decode cX0_beginDraft 10 = .ok (.putfield 22, 3) := by decide +kernel
theorem dX0_beginDraft_13 : decode cX0_beginDraft 13 = .ok (.return_, 1) := by decide +kernel
theorem dX0_keepDraft_0 : decode cX0_keepDraft 0 = .ok (.aload_n 0, 1) := by decide +kernel
theorem dX0_keepDraft_1 : decode cX0_keepDraft 1 = .ok (.aload_n 0, 1) := by decide +kernel
theorem dX0_keepDraft_2 : decode cX0_keepDraft 2 = .ok (.getfield 19, 3) := by decide +kernel
theorem dX0_keepDraft_5 : decode cX0_keepDraft 5 = .ok (.putfield 16, 3) := by decide +kernel
theorem dX0_keepDraft_8 : decode cX0_keepDraft 8 = .ok (.return_, 1) := by decide +kernel
theorem dX1_init_0 : decode cX1_init 0 = .ok (.aload_n 0, 1) := by decide +kernel
theorem dX1_init_1 : decode cX1_init 1 = .ok (.invokespecial 1, 3) := by decide +kernel
theorem dX1_init_4 : decode cX1_init 4 = .ok (.aload_n 0, 1) := by decide +kernel
theorem dX1_init_5 : decode cX1_init 5 = .ok (.iload_n 1, 1) := by decide +kernel
theorem dX1_init_6 : decode cX1_init 6 = .ok (.putfield 7, 3) := by decide +kernel
theorem dX1_init_9 : decode cX1_init 9 = .ok (.aload_n 0, 1) := by decide +kernel
theorem dX1_init_10 : decode cX1_init 10 = .ok (.aload_n 2, 1) := by decide +kernel
theorem dX1_init_11 : decode cX1_init 11 = .ok (.putfield 13, 3) := by decide +kernel
theorem dX1_init_14 : decode cX1_init 14 = .ok (.aload_n 0, 1) := by decide +kernel
theorem dX1_init_15 : decode cX1_init 15 = .ok (.aload_n 2, 1) := by decide +kernel
theorem dX1_init_16 : decode cX1_init 16 = .ok (.getfield 17, 3) := by decide +kernel
theorem dX1_init_19 : decode cX1_init 19 = .ok (.putfield 23, 3) := by decide +kernel
theorem dX1_init_22 : decode cX1_init 22 = .ok (.aload_n 0, 1) := by decide +kernel
theorem dX1_init_23 : decode cX1_init 23 = .ok (.aload_n 2, 1) := by decide +kernel
theorem dX1_init_24 : decode cX1_init 24 = .ok (.getfield 26, 3) := by decide +kernel
theorem dX1_init_27 : decode cX1_init 27 = .ok (.getfield 30, 3) := by decide +kernel
theorem dX1_init_30 : decode cX1_init 30 = .ok (.putfield 35, 3) := by decide +kernel
theorem dX1_init_33 : decode cX1_init 33 = .ok (.aload_n 0, 1) := by decide +kernel
theorem dX1_init_34 : decode cX1_init 34 = .ok (.aload_n 3, 1) := by decide +kernel
theorem dX1_init_35 : decode cX1_init 35 = .ok (.aload_n 2, 1) := by decide +kernel
theorem dX1_init_36 : decode cX1_init 36 = .ok (.getfield 36, 3) := by decide +kernel
theorem dX1_init_39 : decode cX1_init 39 = .ok (.invokevirtual 39, 3) := by decide +kernel
theorem dX1_init_42 : decode cX1_init 42 = .ok (.putfield 45, 3) := by decide +kernel
theorem dX1_init_45 : decode cX1_init 45 = .ok (.aload_n 0, 1) := by decide +kernel
theorem dX1_init_46 : decode cX1_init 46 = .ok (.aload_n 3, 1) := by decide +kernel
theorem dX1_init_47 : decode cX1_init 47 = .ok (.aload_n 2, 1) := by decide +kernel
theorem dX1_init_48 : decode cX1_init 48 = .ok (.getfield 36, 3) := by decide +kernel
theorem dX1_init_51 : decode cX1_init 51 = .ok (.invokevirtual 48, 3) := by decide +kernel
theorem dX1_init_54 : decode cX1_init 54 = .ok (.putfield 51, 3) := by decide +kernel
theorem dX1_init_57 : decode cX1_init 57 = .ok (.return_, 1) := by decide +kernel
theorem dX1_isLetter_0 : decode cX1_isLetter 0 = .ok (.aload_n 0, 1) := by decide +kernel
theorem dX1_isLetter_1 : decode cX1_isLetter 1 = .ok (.getfield 23, 3) := by decide +kernel
theorem dX1_isLetter_4 : decode cX1_isLetter 4 = .ok (.bipush 108, 2) := by decide +kernel
theorem dX1_isLetter_6 : decode cX1_isLetter 6 = .ok (.if_icmp .ne 7, 3) := by decide +kernel
theorem dX1_isLetter_9 : decode cX1_isLetter 9 = .ok (.iconst 1, 1) := by decide +kernel
theorem dX1_isLetter_10 : decode cX1_isLetter 10 = .ok (.goto 4, 3) := by decide +kernel
theorem dX1_isLetter_13 : decode cX1_isLetter 13 = .ok (.iconst 0, 1) := by decide +kernel
theorem dX1_isLetter_14 : decode cX1_isLetter 14 = .ok (.ireturn, 1) := by decide +kernel
theorem dX1_tens_0 : decode cX1_tens 0 = .ok (.aload_n 0, 1) := by decide +kernel
theorem dX1_tens_1 : decode cX1_tens 1 = .ok (.getfield 35, 3) := by decide +kernel
theorem dX1_tens_4 : decode cX1_tens 4 = .ok (.bipush 10, 2) := by decide +kernel
theorem dX1_tens_6 : decode cX1_tens 6 = .ok (.idiv, 1) := by decide +kernel
theorem dX1_tens_7 : decode cX1_tens 7 = .ok (.ireturn, 1) := by decide +kernel
theorem dX1_fullCents_0 : decode cX1_fullCents 0 = .ok (.iconst 5, 1) := by decide +kernel
theorem dX1_fullCents_1 : decode cX1_fullCents 1 = .ok (.aload_n 0, 1) := by decide +kernel
theorem dX1_fullCents_2 : decode cX1_fullCents 2 = .ok (.getfield 45, 3) := by decide +kernel
theorem dX1_fullCents_5 : decode cX1_fullCents 5 = .ok (.imul, 1) := by decide +kernel
theorem dX1_fullCents_6 : decode cX1_fullCents 6 = .ok (.aload_n 0, 1) := by decide +kernel
theorem dX1_fullCents_7 : decode cX1_fullCents 7 = .ok (.getfield 45, 3) := by decide +kernel
theorem dX1_fullCents_10 : decode cX1_fullCents 10 = .ok (.invokestatic 54, 3) := by decide +kernel
theorem dX1_fullCents_13 : decode cX1_fullCents 13 = .ok (.ifCond .eq 8, 3) := by decide +kernel
theorem dX1_fullCents_16 : decode cX1_fullCents 16 = .ok (.bipush 25, 2) := by decide +kernel
theorem dX1_fullCents_18 : decode cX1_fullCents 18 = .ok (.goto 5, 3) := by decide +kernel
theorem dX1_fullCents_21 : decode cX1_fullCents 21 = .ok (.bipush 10, 2) := by decide +kernel
theorem dX1_fullCents_23 : decode cX1_fullCents 23 = .ok (.iadd, 1) := by decide +kernel
theorem dX1_fullCents_24 : decode cX1_fullCents 24 = .ok (.istore_n 1, 1) := by decide +kernel
theorem dX1_fullCents_25 : decode cX1_fullCents 25 = .ok (.iload_n 1, 1) := by decide +kernel
theorem dX1_fullCents_26 : decode cX1_fullCents 26 = .ok (.bipush 20, 2) := by decide +kernel
theorem dX1_fullCents_28 : decode cX1_fullCents 28 = .ok (.if_icmp .gt 6, 3) := by decide +kernel
theorem dX1_fullCents_31 : decode cX1_fullCents 31 = .ok (.bipush 80, 2) := by decide +kernel
theorem dX1_fullCents_33 : decode cX1_fullCents 33 = .ok (.ireturn, 1) := by decide +kernel
theorem dX1_fullCents_34 : decode cX1_fullCents 34 = .ok (.iload_n 1, 1) := by decide +kernel
theorem dX1_fullCents_35 : decode cX1_fullCents 35 = .ok (.bipush 40, 2) := by decide +kernel
theorem dX1_fullCents_37 : decode cX1_fullCents 37 = .ok (.if_icmp .gt 8, 3) := by decide +kernel
theorem dX1_fullCents_40 : decode cX1_fullCents 40 = .ok (.bipush 95, 2) := by decide +kernel
theorem dX1_fullCents_42 : decode cX1_fullCents 42 = .ok (.goto 6, 3) := by decide +kernel
theorem dX1_fullCents_45 : decode cX1_fullCents 45 = .ok (.sipush 160, 3) := by decide +kernel
theorem dX1_fullCents_48 : decode cX1_fullCents 48 = .ok (.ireturn, 1) := by decide +kernel
theorem dX2_init_0 : decode cX2_init 0 = .ok (.aload_n 0, 1) := by decide +kernel
theorem dX2_init_1 : decode cX2_init 1 = .ok (.invokespecial 3, 3) := by decide +kernel
theorem dX2_init_4 : decode cX2_init 4 = .ok (.aload_n 0, 1) := by decide +kernel
theorem dX2_init_5 : decode cX2_init 5 = .ok (.aload_n 1, 1) := by decide +kernel
theorem dX2_init_6 : decode cX2_init 6 = .ok (.putfield 9, 3) := by decide +kernel
theorem dX2_init_9 : decode cX2_init 9 = .ok (.aload_n 0, 1) := by decide +kernel
theorem dX2_init_10 : decode cX2_init 10 = .ok (.iload_n 2, 1) := by decide +kernel
theorem dX2_init_11 : decode cX2_init 11 = .ok (.putfield 15, 3) := by decide +kernel
theorem dX2_init_14 : decode cX2_init 14 = .ok (.aload_n 0, 1) := by decide +kernel
theorem dX2_init_15 : decode cX2_init 15 = .ok (.bipush 45, 2) := by decide +kernel
theorem dX2_init_17 : decode cX2_init 17 = .ok (.putfield 19, 3) := by decide +kernel
theorem dX2_init_20 : decode cX2_init 20 = .ok (.return_, 1) := by decide +kernel
theorem dX2_isSuppressed_0 : decode cX2_isSuppressed 0 = .ok (.aload_n 0, 1) := by decide +kernel
theorem dX2_isSuppressed_1 : decode cX2_isSuppressed 1 = .ok (.getfield 19, 3) := by decide +kernel
theorem dX2_isSuppressed_4 : decode cX2_isSuppressed 4 = .ok (.bipush 45, 2) := by decide +kernel
theorem dX2_isSuppressed_6 : decode cX2_isSuppressed 6 = .ok (.if_icmp .eq 7, 3) := by decide +kernel
theorem dX2_isSuppressed_9 : decode cX2_isSuppressed 9 = .ok (.iconst 1, 1) := by decide +kernel
theorem dX2_isSuppressed_10 : decode cX2_isSuppressed 10 = .ok (.goto 4, 3) := by decide +kernel
theorem dX2_isSuppressed_13 : decode cX2_isSuppressed 13 = .ok (.iconst 0, 1) := by decide +kernel
theorem dX2_isSuppressed_14 : decode cX2_isSuppressed 14 = .ok (.ireturn, 1) := by decide +kernel
theorem dX3_init_0 : decode cX3_init 0 = .ok (.aload_n 0, 1) := by decide +kernel
theorem dX3_init_1 : decode cX3_init 1 = .ok (.invokespecial 3, 3) := by decide +kernel
theorem dX3_init_4 : decode cX3_init 4 = .ok (.aload_n 0, 1) := by decide +kernel
theorem dX3_init_5 : decode cX3_init 5 = .ok (.iload_n 1, 1) := by decide +kernel
theorem dX3_init_6 : decode cX3_init 6 = .ok (.putfield 9, 3) := by decide +kernel
theorem dX3_init_9 : decode cX3_init 9 = .ok (.aload_n 0, 1) := by decide +kernel
theorem dX3_init_10 : decode cX3_init 10 = .ok (.new 15, 3) := by decide +kernel
theorem dX3_init_13 : decode cX3_init 13 = .ok (.dup, 1) := by decide +kernel
theorem dX3_init_14 : decode cX3_init 14 = .ok (.invokespecial 17, 3) := by decide +kernel
theorem dX3_init_17 : decode cX3_init 17 = .ok (.putfield 18, 3) := by decide +kernel
theorem dX3_init_20 : decode cX3_init 20 = .ok (.aload_n 0, 1) := by decide +kernel
theorem dX3_init_21 : decode cX3_init 21 = .ok (.new 15, 3) := by decide +kernel
theorem dX3_init_24 : decode cX3_init 24 = .ok (.dup, 1) := by decide +kernel
theorem dX3_init_25 : decode cX3_init 25 = .ok (.invokespecial 17, 3) := by decide +kernel
theorem dX3_init_28 : decode cX3_init 28 = .ok (.putfield 22, 3) := by decide +kernel
theorem dX3_init_31 : decode cX3_init 31 = .ok (.aload_n 0, 1) := by decide +kernel
theorem dX3_init_32 : decode cX3_init 32 = .ok (.new 15, 3) := by decide +kernel
theorem dX3_init_35 : decode cX3_init 35 = .ok (.dup, 1) := by decide +kernel
theorem dX3_init_36 : decode cX3_init 36 = .ok (.invokespecial 17, 3) := by decide +kernel
theorem dX3_init_39 : decode cX3_init 39 = .ok (.putfield 25, 3) := by decide +kernel
theorem dX3_init_42 : decode cX3_init 42 = .ok (.return_, 1) := by decide +kernel
theorem dX3_enter_0 : decode cX3_enter 0 = .ok (.aload_n 0, 1) := by decide +kernel
theorem dX3_enter_1 : decode cX3_enter 1 = .ok (.getfield 18, 3) := by decide +kernel
theorem dX3_enter_4 : decode cX3_enter 4 = .ok (.aload_n 1, 1) := by decide +kernel
theorem dX3_enter_5 : decode cX3_enter 5 = .ok (.invokevirtual 28, 3) := by decide +kernel
theorem dX3_enter_8 : decode cX3_enter 8 = .ok (.pop, 1) := by decide +kernel
theorem dX3_enter_9 : decode cX3_enter 9 = .ok (.aload_n 1, 1) := by decide +kernel
theorem dX3_enter_10 : decode cX3_enter 10 = .ok (.invokevirtual 32, 3) := by decide +kernel
theorem dX3_enter_13 : decode cX3_enter 13 = .ok (.ifCond .eq 19, 3) := by decide +kernel
theorem dX3_enter_16 : decode cX3_enter 16 = .ok (.aload_n 0, 1) := by decide +kernel
theorem dX3_enter_17 : decode cX3_enter 17 = .ok (.getfield 22, 3) := by decide +kernel
theorem dX3_enter_20 : decode cX3_enter 20 = .ok (.aload_n 0, 1) := by decide +kernel
theorem dX3_enter_21 : decode cX3_enter 21 = .ok (.aload_n 1, 1) := by decide +kernel
theorem dX3_enter_22 : decode cX3_enter 22 = .ok (.getfield 38, 3) := by decide +kernel
theorem dX3_enter_25 : decode cX3_enter 25 = .ok (.invokevirtual 41, 3) := by decide +kernel
theorem dX3_enter_28 : decode cX3_enter 28 = .ok (.aload_n 1, 1) := by decide +kernel
theorem dX3_enter_29 : decode cX3_enter 29 = .ok (.invokevirtual 45, 3) := by decide +kernel
theorem dX3_enter_32 : decode cX3_enter 32 = .ok (.return_, 1) := by decide +kernel
theorem dX3_countUpToCode_0 : decode cX3_countUpToCode 0 = .ok (.iconst 0, 1) := by decide +kernel
theorem dX3_countUpToCode_1 : decode cX3_countUpToCode 1 = .ok (.istore_n 2, 1) := by decide +kernel
theorem dX3_countUpToCode_2 : decode cX3_countUpToCode 2 = .ok (.iconst 0, 1) := by decide +kernel
theorem dX3_countUpToCode_3 : decode cX3_countUpToCode 3 = .ok (.istore_n 3, 1) := by decide +kernel
theorem dX3_countUpToCode_4 : decode cX3_countUpToCode 4 = .ok (.iload_n 3, 1) := by decide +kernel
theorem dX3_countUpToCode_5 : decode cX3_countUpToCode 5 = .ok (.aload_n 0, 1) := by decide +kernel
theorem dX3_countUpToCode_6 : decode cX3_countUpToCode 6 = .ok (.getfield 22, 3) := by decide +kernel
theorem dX3_countUpToCode_9 : decode cX3_countUpToCode 9 = .ok (.invokevirtual 48, 3) := by decide +kernel
theorem dX3_countUpToCode_12 : decode cX3_countUpToCode 12 = .ok (.if_icmp .ge 30, 3) := by decide +kernel
theorem dX3_countUpToCode_15 : decode cX3_countUpToCode 15 = .ok (.aload_n 0, 1) := by decide +kernel
theorem dX3_countUpToCode_16 : decode cX3_countUpToCode 16 = .ok (.getfield 22, 3) := by decide +kernel
theorem dX3_countUpToCode_19 : decode cX3_countUpToCode 19 = .ok (.iload_n 3, 1) := by decide +kernel
theorem dX3_countUpToCode_20 : decode cX3_countUpToCode 20 = .ok (.invokevirtual 52, 3) := by decide +kernel
theorem dX3_countUpToCode_23 : decode cX3_countUpToCode 23 = .ok (.checkcast 33, 3) := by decide +kernel
theorem dX3_countUpToCode_26 : decode cX3_countUpToCode 26 = .ok (.getfield 38, 3) := by decide +kernel
theorem dX3_countUpToCode_29 : decode cX3_countUpToCode 29 = .ok (.iload_n 1, 1) := by decide +kernel
theorem dX3_countUpToCode_30 : decode cX3_countUpToCode 30 = .ok (.if_icmp .gt 6, 3) := by decide +kernel
theorem dX3_countUpToCode_33 : decode cX3_countUpToCode 33 = .ok (.iinc 2 1, 3) := by decide +kernel
theorem dX3_countUpToCode_36 : decode cX3_countUpToCode 36 = .ok (.iinc 3 1, 3) := by decide +kernel
theorem dX3_countUpToCode_39 : decode cX3_countUpToCode 39 = .ok (.goto (-35), 3) := by decide +kernel
theorem dX3_countUpToCode_42 : decode cX3_countUpToCode 42 = .ok (.iload_n 2, 1) := by decide +kernel
theorem dX3_countUpToCode_43 : decode cX3_countUpToCode 43 = .ok (.ireturn, 1) := by decide +kernel
theorem dX3_chooseProof_0 : decode cX3_chooseProof 0 = .ok (.iconst 0, 1) := by decide +kernel
theorem dX3_chooseProof_1 : decode cX3_chooseProof 1 = .ok (.istore_n 1, 1) := by decide +kernel
theorem dX3_chooseProof_2 : decode cX3_chooseProof 2 = .ok (.iconst 0, 1) := by decide +kernel
theorem dX3_chooseProof_3 : decode cX3_chooseProof 3 = .ok (.istore_n 2, 1) := by decide +kernel
theorem dX3_chooseProof_4 : decode cX3_chooseProof 4 = .ok (.iload_n 2, 1) := by decide +kernel
theorem dX3_chooseProof_5 : decode cX3_chooseProof 5 = .ok (.bipush 8, 2) := by decide +kernel
theorem dX3_chooseProof_7 : decode cX3_chooseProof 7 = .ok (.if_icmp .ge 36, 3) := by decide +kernel
theorem dX3_chooseProof_10 : decode cX3_chooseProof 10 = .ok (.aload_n 0, 1) := by decide +kernel
theorem dX3_chooseProof_11 : decode cX3_chooseProof 11 = .ok (.iload_n 1, 1) := by decide +kernel
theorem dX3_chooseProof_12 : decode cX3_chooseProof 12 = .ok (.invokevirtual 56, 3) := by decide +kernel
theorem dX3_chooseProof_15 : decode cX3_chooseProof 15 = .ok (.astore_n 3, 1) := by decide +kernel
theorem dX3_chooseProof_16 : decode cX3_chooseProof 16 = .ok (.aload_n 3, 1) := by decide +kernel
theorem dX3_chooseProof_17 : decode cX3_chooseProof 17 = .ok (.ifnonnull 4, 3) := by decide +kernel
theorem dX3_chooseProof_20 : decode cX3_chooseProof 20 = .ok (.return_, 1) := by decide +kernel
theorem dX3_chooseProof_21 : decode cX3_chooseProof 21 = .ok (.aload_n 0, 1) := by decide +kernel
theorem dX3_chooseProof_22 : decode cX3_chooseProof 22 = .ok (.getfield 25, 3) := by decide +kernel
theorem dX3_chooseProof_25 : decode cX3_chooseProof 25 = .ok (.aload_n 3, 1) := by decide +kernel
theorem dX3_chooseProof_26 : decode cX3_chooseProof 26 = .ok (.invokevirtual 28, 3) := by decide +kernel
theorem dX3_chooseProof_29 : decode cX3_chooseProof 29 = .ok (.pop, 1) := by decide +kernel
theorem dX3_chooseProof_30 : decode cX3_chooseProof 30 = .ok (.iload_n 1, 1) := by decide +kernel
theorem dX3_chooseProof_31 : decode cX3_chooseProof 31 = .ok (.aload_n 3, 1) := by decide +kernel
theorem dX3_chooseProof_32 : decode cX3_chooseProof 32 = .ok (.getfield 60, 3) := by decide +kernel
theorem dX3_chooseProof_35 : decode cX3_chooseProof 35 = .ok (.ior, 1) := by decide +kernel
theorem dX3_chooseProof_36 : decode cX3_chooseProof 36 = .ok (.istore_n 1, 1) := by decide +kernel
theorem dX3_chooseProof_37 : decode cX3_chooseProof 37 = .ok (.iinc 2 1, 3) := by decide +kernel
theorem dX3_chooseProof_40 : decode cX3_chooseProof 40 = .ok (.goto (-36), 3) := by decide +kernel
theorem dX3_chooseProof_43 : decode cX3_chooseProof 43 = .ok (.return_, 1) := by decide +kernel
theorem dX3_letterWithMostNewParts_0 : decode cX3_letterWithMostNewParts 0 = .ok (.aconst_null, 1) := by decide +kernel
theorem dX3_letterWithMostNewParts_1 : decode cX3_letterWithMostNewParts 1 = .ok (.astore_n 2, 1) := by decide +kernel
theorem dX3_letterWithMostNewParts_2 : decode cX3_letterWithMostNewParts 2 = .ok (.iconst 0, 1) := by decide +kernel
theorem dX3_letterWithMostNewParts_3 : decode cX3_letterWithMostNewParts 3 = .ok (.istore_n 3, 1) := by decide +kernel
theorem dX3_letterWithMostNewParts_4 : decode cX3_letterWithMostNewParts 4 = .ok (.iconst 0, 1) := by decide +kernel
theorem dX3_letterWithMostNewParts_5 : decode cX3_letterWithMostNewParts 5 = .ok (.istore 4, 2) := by decide +kernel
theorem dX3_letterWithMostNewParts_7 : decode cX3_letterWithMostNewParts 7 = .ok (.iload 4, 2) := by decide +kernel
theorem dX3_letterWithMostNewParts_9 : decode cX3_letterWithMostNewParts 9 = .ok (.aload_n 0, 1) := by decide +kernel
theorem dX3_letterWithMostNewParts_10 : decode cX3_letterWithMostNewParts 10 = .ok (.getfield 18, 3) := by decide +kernel
theorem dX3_letterWithMostNewParts_13 : decode cX3_letterWithMostNewParts 13 = .ok (.invokevirtual 48, 3) := by decide +kernel
theorem dX3_letterWithMostNewParts_16 : decode cX3_letterWithMostNewParts 16 = .ok (.if_icmp .ge 57, 3) := by decide +kernel
theorem dX3_letterWithMostNewParts_19 : decode cX3_letterWithMostNewParts 19 = .ok (.aload_n 0, 1) := by decide +kernel
theorem dX3_letterWithMostNewParts_20 : decode cX3_letterWithMostNewParts 20 = .ok (.getfield 18, 3) := by decide +kernel
theorem dX3_letterWithMostNewParts_23 : decode cX3_letterWithMostNewParts 23 = .ok (.iload 4, 2) := by decide +kernel
theorem dX3_letterWithMostNewParts_25 : decode cX3_letterWithMostNewParts 25 = .ok (.invokevirtual 52, 3) := by decide +kernel
theorem dX3_letterWithMostNewParts_28 : decode cX3_letterWithMostNewParts 28 = .ok (.checkcast 33, 3) := by decide +kernel
theorem dX3_letterWithMostNewParts_31 : decode cX3_letterWithMostNewParts 31 = .ok (.astore 5, 2) := by decide +kernel
theorem dX3_letterWithMostNewParts_33 : decode cX3_letterWithMostNewParts 33 = .ok (.aload 5, 2) := by decide +kernel
theorem dX3_letterWithMostNewParts_35 : decode cX3_letterWithMostNewParts 35 = .ok (.getfield 60, 3) := by decide +kernel
theorem dX3_letterWithMostNewParts_38 : decode cX3_letterWithMostNewParts 38 = .ok (.iload_n 1, 1) := by decide +kernel
theorem dX3_letterWithMostNewParts_39 : decode cX3_letterWithMostNewParts 39 = .ok (.iconst (-1), 1) := by decide +kernel
theorem dX3_letterWithMostNewParts_40 : decode cX3_letterWithMostNewParts 40 = .ok (.ixor, 1) := by decide +kernel
theorem dX3_letterWithMostNewParts_41 : decode cX3_letterWithMostNewParts 41 = .ok (.iand, 1) := by decide +kernel
theorem dX3_letterWithMostNewParts_42 : decode cX3_letterWithMostNewParts 42 = .ok (.invokestatic 63, 3) := by decide +kernel
theorem dX3_letterWithMostNewParts_45 : decode cX3_letterWithMostNewParts 45 = .ok (.istore 6, 2) := by decide +kernel
theorem dX3_letterWithMostNewParts_47 : decode cX3_letterWithMostNewParts 47 = .ok (.aload 5, 2) := by decide +kernel
theorem dX3_letterWithMostNewParts_49 : decode cX3_letterWithMostNewParts 49 = .ok (.invokevirtual 32, 3) := by decide +kernel
theorem dX3_letterWithMostNewParts_52 : decode cX3_letterWithMostNewParts 52 = .ok (.ifCond .eq 15, 3) := by decide +kernel
theorem dX3_letterWithMostNewParts_55 : decode cX3_letterWithMostNewParts 55 = .ok (.iload 6, 2) := by decide +kernel
theorem dX3_letterWithMostNewParts_57 : decode cX3_letterWithMostNewParts 57 = .ok (.iload_n 3, 1) := by decide +kernel
theorem dX3_letterWithMostNewParts_58 : decode cX3_letterWithMostNewParts 58 = .ok (.if_icmp .le 9, 3) := by decide +kernel
theorem dX3_letterWithMostNewParts_61 : decode cX3_letterWithMostNewParts 61 = .ok (.aload 5, 2) := by decide +kernel
theorem dX3_letterWithMostNewParts_63 : decode cX3_letterWithMostNewParts 63 = .ok (.astore_n 2, 1) := by decide +kernel
theorem dX3_letterWithMostNewParts_64 : decode cX3_letterWithMostNewParts 64 = .ok (.iload 6, 2) := by decide +kernel
theorem dX3_letterWithMostNewParts_66 : decode cX3_letterWithMostNewParts 66 = .ok (.istore_n 3, 1) := by decide +kernel
theorem dX3_letterWithMostNewParts_67 : decode cX3_letterWithMostNewParts 67 = .ok (.iinc 4 1, 3) := by decide +kernel
theorem dX3_letterWithMostNewParts_70 : decode cX3_letterWithMostNewParts 70 = .ok (.goto (-63), 3) := by decide +kernel
theorem dX3_letterWithMostNewParts_73 : decode cX3_letterWithMostNewParts 73 = .ok (.aload_n 2, 1) := by decide +kernel
theorem dX3_letterWithMostNewParts_74 : decode cX3_letterWithMostNewParts 74 = .ok (.areturn, 1) := by decide +kernel
theorem dX3_hasArrivedAt_0 : decode cX3_hasArrivedAt 0 = .ok (.iconst 0, 1) := by decide +kernel
theorem dX3_hasArrivedAt_1 : decode cX3_hasArrivedAt 1 = .ok (.istore_n 2, 1) := by decide +kernel
theorem dX3_hasArrivedAt_2 : decode cX3_hasArrivedAt 2 = .ok (.iload_n 2, 1) := by decide +kernel
theorem dX3_hasArrivedAt_3 : decode cX3_hasArrivedAt 3 = .ok (.aload_n 0, 1) := by decide +kernel
theorem dX3_hasArrivedAt_4 : decode cX3_hasArrivedAt 4 = .ok (.getfield 22, 3) := by decide +kernel
theorem dX3_hasArrivedAt_7 : decode cX3_hasArrivedAt 7 = .ok (.invokevirtual 48, 3) := by decide +kernel
theorem dX3_hasArrivedAt_10 : decode cX3_hasArrivedAt 10 = .ok (.if_icmp .ge 41, 3) := by decide +kernel
theorem dX3_hasArrivedAt_13 : decode cX3_hasArrivedAt 13 = .ok (.aload_n 0, 1) := by decide +kernel
theorem dX3_hasArrivedAt_14 : decode cX3_hasArrivedAt 14 = .ok (.getfield 22, 3) := by decide +kernel
theorem dX3_hasArrivedAt_17 : decode cX3_hasArrivedAt 17 = .ok (.iload_n 2, 1) := by decide +kernel
theorem dX3_hasArrivedAt_18 : decode cX3_hasArrivedAt 18 = .ok (.invokevirtual 52, 3) := by decide +kernel
theorem dX3_hasArrivedAt_21 : decode cX3_hasArrivedAt 21 = .ok (.checkcast 33, 3) := by decide +kernel
theorem dX3_hasArrivedAt_24 : decode cX3_hasArrivedAt 24 = .ok (.astore_n 3, 1) := by decide +kernel
theorem dX3_hasArrivedAt_25 : decode cX3_hasArrivedAt 25 = .ok (.aload_n 3, 1) := by decide +kernel
theorem dX3_hasArrivedAt_26 : decode cX3_hasArrivedAt 26 = .ok (.getfield 68, 3) := by decide +kernel
theorem dX3_hasArrivedAt_29 : decode cX3_hasArrivedAt 29 = .ok (.getfield 72, 3) := by decide +kernel
theorem dX3_hasArrivedAt_32 : decode cX3_hasArrivedAt 32 = .ok (.aload_n 1, 1) := by decide +kernel
theorem dX3_hasArrivedAt_33 : decode cX3_hasArrivedAt 33 = .ok (.if_acmp .ne 12, 3) := by decide +kernel
theorem dX3_hasArrivedAt_36 : decode cX3_hasArrivedAt 36 = .ok (.aload_n 3, 1) := by decide +kernel
theorem dX3_hasArrivedAt_37 : decode cX3_hasArrivedAt 37 = .ok (.getfield 78, 3) := by decide +kernel
theorem dX3_hasArrivedAt_40 : decode cX3_hasArrivedAt 40 = .ok (.ifCond .ne 5, 3) := by decide +kernel
theorem dX3_hasArrivedAt_43 : decode cX3_hasArrivedAt 43 = .ok (.iconst 1, 1) := by decide +kernel
theorem dX3_hasArrivedAt_44 : decode cX3_hasArrivedAt 44 = .ok (.ireturn, 1) := by decide +kernel
theorem dX3_hasArrivedAt_45 : decode cX3_hasArrivedAt 45 = .ok (.iinc 2 1, 3) := by decide +kernel
theorem dX3_hasArrivedAt_48 : decode cX3_hasArrivedAt 48 = .ok (.goto (-46), 3) := by decide +kernel
theorem dX3_hasArrivedAt_51 : decode cX3_hasArrivedAt 51 = .ok (.iconst 0, 1) := by decide +kernel
theorem dX3_hasArrivedAt_52 : decode cX3_hasArrivedAt 52 = .ok (.ireturn, 1) := by decide +kernel
theorem dX3_countBack_0 : decode cX3_countBack 0 = .ok (.iconst 0, 1) := by decide +kernel
theorem dX3_countBack_1 : decode cX3_countBack 1 = .ok (.istore_n 1, 1) := by decide +kernel
theorem dX3_countBack_2 : decode cX3_countBack 2 = .ok (.iconst 0, 1) := by decide +kernel
theorem dX3_countBack_3 : decode cX3_countBack 3 = .ok (.istore_n 2, 1) := by decide +kernel
theorem dX3_countBack_4 : decode cX3_countBack 4 = .ok (.iload_n 2, 1) := by decide +kernel
theorem dX3_countBack_5 : decode cX3_countBack 5 = .ok (.aload_n 0, 1) := by decide +kernel
theorem dX3_countBack_6 : decode cX3_countBack 6 = .ok (.getfield 22, 3) := by decide +kernel
theorem dX3_countBack_9 : decode cX3_countBack 9 = .ok (.invokevirtual 48, 3) := by decide +kernel
theorem dX3_countBack_12 : decode cX3_countBack 12 = .ok (.if_icmp .ge 29, 3) := by decide +kernel
theorem dX3_countBack_15 : decode cX3_countBack 15 = .ok (.aload_n 0, 1) := by decide +kernel
theorem dX3_countBack_16 : decode cX3_countBack 16 = .ok (.getfield 22, 3) := by decide +kernel
theorem dX3_countBack_19 : decode cX3_countBack 19 = .ok (.iload_n 2, 1) := by decide +kernel
theorem dX3_countBack_20 : decode cX3_countBack 20 = .ok (.invokevirtual 52, 3) := by decide +kernel
theorem dX3_countBack_23 : decode cX3_countBack 23 = .ok (.checkcast 33, 3) := by decide +kernel
theorem dX3_countBack_26 : decode cX3_countBack 26 = .ok (.getfield 78, 3) := by decide +kernel
theorem dX3_countBack_29 : decode cX3_countBack 29 = .ok (.ifCond .eq 6, 3) := by decide +kernel
theorem dX3_countBack_32 : decode cX3_countBack 32 = .ok (.iinc 1 1, 3) := by decide +kernel
theorem dX3_countBack_35 : decode cX3_countBack 35 = .ok (.iinc 2 1, 3) := by decide +kernel
theorem dX3_countBack_38 : decode cX3_countBack 38 = .ok (.goto (-34), 3) := by decide +kernel
theorem dX3_countBack_41 : decode cX3_countBack 41 = .ok (.iload_n 1, 1) := by decide +kernel
theorem dX3_countBack_42 : decode cX3_countBack 42 = .ok (.ireturn, 1) := by decide +kernel
theorem dX3_countPages_0 : decode cX3_countPages 0 = .ok (.iconst 0, 1) := by decide +kernel
theorem dX3_countPages_1 : decode cX3_countPages 1 = .ok (.istore_n 1, 1) := by decide +kernel
theorem dX3_countPages_2 : decode cX3_countPages 2 = .ok (.iconst 0, 1) := by decide +kernel
theorem dX3_countPages_3 : decode cX3_countPages 3 = .ok (.istore_n 2, 1) := by decide +kernel
theorem dX3_countPages_4 : decode cX3_countPages 4 = .ok (.iload_n 2, 1) := by decide +kernel
theorem dX3_countPages_5 : decode cX3_countPages 5 = .ok (.aload_n 0, 1) := by decide +kernel
theorem dX3_countPages_6 : decode cX3_countPages 6 = .ok (.getfield 22, 3) := by decide +kernel
theorem dX3_countPages_9 : decode cX3_countPages 9 = .ok (.invokevirtual 48, 3) := by decide +kernel
theorem dX3_countPages_12 : decode cX3_countPages 12 = .ok (.if_icmp .ge 26, 3) := by decide +kernel
theorem dX3_countPages_15 : decode cX3_countPages 15 = .ok (.iload_n 1, 1) := by decide +kernel
theorem dX3_countPages_16 : decode cX3_countPages 16 = .ok (.aload_n 0, 1) := by decide +kernel
theorem dX3_countPages_17 : decode cX3_countPages 17 = .ok (.getfield 22, 3) := by decide +kernel
theorem dX3_countPages_20 : decode cX3_countPages 20 = .ok (.iload_n 2, 1) := by decide +kernel
theorem dX3_countPages_21 : decode cX3_countPages 21 = .ok (.invokevirtual 52, 3) := by decide +kernel
theorem dX3_countPages_24 : decode cX3_countPages 24 = .ok (.checkcast 33, 3) := by decide +kernel
theorem dX3_countPages_27 : decode cX3_countPages 27 = .ok (.getfield 82, 3) := by decide +kernel
theorem dX3_countPages_30 : decode cX3_countPages 30 = .ok (.iadd, 1) := by decide +kernel
theorem dX3_countPages_31 : decode cX3_countPages 31 = .ok (.istore_n 1, 1) := by decide +kernel
theorem dX3_countPages_32 : decode cX3_countPages 32 = .ok (.iinc 2 1, 3) := by decide +kernel
theorem dX3_countPages_35 : decode cX3_countPages 35 = .ok (.goto (-31), 3) := by decide +kernel
theorem dX3_countPages_38 : decode cX3_countPages 38 = .ok (.iload_n 1, 1) := by decide +kernel
theorem dX3_countPages_39 : decode cX3_countPages 39 = .ok (.ireturn, 1) := by decide +kernel
theorem dX3_countOnRoute_0 : decode cX3_countOnRoute 0 = .ok (.iconst 0, 1) := by decide +kernel
theorem dX3_countOnRoute_1 : decode cX3_countOnRoute 1 = .ok (.istore_n 2, 1) := by decide +kernel
theorem dX3_countOnRoute_2 : decode cX3_countOnRoute 2 = .ok (.iconst 0, 1) := by decide +kernel
theorem dX3_countOnRoute_3 : decode cX3_countOnRoute 3 = .ok (.istore_n 3, 1) := by decide +kernel
theorem dX3_countOnRoute_4 : decode cX3_countOnRoute 4 = .ok (.iload_n 3, 1) := by decide +kernel
theorem dX3_countOnRoute_5 : decode cX3_countOnRoute 5 = .ok (.aload_n 0, 1) := by decide +kernel
theorem dX3_countOnRoute_6 : decode cX3_countOnRoute 6 = .ok (.getfield 22, 3) := by decide +kernel
theorem dX3_countOnRoute_9 : decode cX3_countOnRoute 9 = .ok (.invokevirtual 48, 3) := by decide +kernel
theorem dX3_countOnRoute_12 : decode cX3_countOnRoute 12 = .ok (.if_icmp .ge 30, 3) := by decide +kernel
theorem dX3_countOnRoute_15 : decode cX3_countOnRoute 15 = .ok (.aload_n 0, 1) := by decide +kernel
theorem dX3_countOnRoute_16 : decode cX3_countOnRoute 16 = .ok (.getfield 22, 3) := by decide +kernel
theorem dX3_countOnRoute_19 : decode cX3_countOnRoute 19 = .ok (.iload_n 3, 1) := by decide +kernel
theorem dX3_countOnRoute_20 : decode cX3_countOnRoute 20 = .ok (.invokevirtual 52, 3) := by decide +kernel
theorem dX3_countOnRoute_23 : decode cX3_countOnRoute 23 = .ok (.checkcast 33, 3) := by decide +kernel
theorem dX3_countOnRoute_26 : decode cX3_countOnRoute 26 = .ok (.invokevirtual 85, 3) := by decide +kernel
theorem dX3_countOnRoute_29 : decode cX3_countOnRoute 29 = .ok (.iload_n 1, 1) := by decide +kernel
theorem dX3_countOnRoute_30 : decode cX3_countOnRoute 30 = .ok (.if_icmp .ne 6, 3) := by decide +kernel
theorem dX3_countOnRoute_33 : decode cX3_countOnRoute 33 = .ok (.iinc 2 1, 3) := by decide +kernel
theorem dX3_countOnRoute_36 : decode cX3_countOnRoute 36 = .ok (.iinc 3 1, 3) := by decide +kernel
theorem dX3_countOnRoute_39 : decode cX3_countOnRoute 39 = .ok (.goto (-35), 3) := by decide +kernel
theorem dX3_countOnRoute_42 : decode cX3_countOnRoute 42 = .ok (.iload_n 2, 1) := by decide +kernel
theorem dX3_countOnRoute_43 : decode cX3_countOnRoute 43 = .ok (.ireturn, 1) := by decide +kernel
theorem dX3_centsFor_0 : decode cX3_centsFor 0 = .ok (.aload_n 1, 1) := by decide +kernel
theorem dX3_centsFor_1 : decode cX3_centsFor 1 = .ok (.invokevirtual 88, 3) := by decide +kernel
theorem dX3_centsFor_4 : decode cX3_centsFor 4 = .ok (.istore_n 2, 1) := by decide +kernel
theorem dX3_centsFor_5 : decode cX3_centsFor 5 = .ok (.aload_n 0, 1) := by decide +kernel
theorem dX3_centsFor_6 : decode cX3_centsFor 6 = .ok (.aload_n 1, 1) := by decide +kernel
theorem dX3_centsFor_7 : decode cX3_centsFor 7 = .ok (.invokevirtual 85, 3) := by decide +kernel
theorem dX3_centsFor_10 : decode cX3_centsFor 10 = .ok (.invokevirtual 91, 3) := by decide +kernel
theorem dX3_centsFor_13 : decode cX3_centsFor 13 = .ok (.aload_n 0, 1) := by decide +kernel
theorem dX3_centsFor_14 : decode cX3_centsFor 14 = .ok (.getfield 9, 3) := by decide +kernel
theorem dX3_centsFor_17 : decode cX3_centsFor 17 = .ok (.if_icmp .lt 9, 3) := by decide +kernel
theorem dX3_centsFor_20 : decode cX3_centsFor 20 = .ok (.iload_n 2, 1) := by decide +kernel
theorem dX3_centsFor_21 : decode cX3_centsFor 21 = .ok (.iload_n 2, 1) := by decide +kernel
theorem dX3_centsFor_22 : decode cX3_centsFor 22 = .ok (.iconst 5, 1) := by decide +kernel
theorem dX3_centsFor_23 : decode cX3_centsFor 23 = .ok (.idiv, 1) := by decide +kernel
theorem dX3_centsFor_24 : decode cX3_centsFor 24 = .ok (.isub, 1) := by decide +kernel
theorem dX3_centsFor_25 : decode cX3_centsFor 25 = .ok (.istore_n 2, 1) := by decide +kernel
theorem dX3_centsFor_26 : decode cX3_centsFor 26 = .ok (.iload_n 2, 1) := by decide +kernel
theorem dX3_centsFor_27 : decode cX3_centsFor 27 = .ok (.ireturn, 1) := by decide +kernel
theorem dX3_centsForAll_0 : decode cX3_centsForAll 0 = .ok (.lconst 0, 1) := by decide +kernel
theorem dX3_centsForAll_1 : decode cX3_centsForAll 1 = .ok (.lstore_n 1, 1) := by decide +kernel
theorem dX3_centsForAll_2 : decode cX3_centsForAll 2 = .ok (.iconst 0, 1) := by decide +kernel
theorem dX3_centsForAll_3 : decode cX3_centsForAll 3 = .ok (.istore_n 3, 1) := by decide +kernel
theorem dX3_centsForAll_4 : decode cX3_centsForAll 4 = .ok (.iload_n 3, 1) := by decide +kernel
theorem dX3_centsForAll_5 : decode cX3_centsForAll 5 = .ok (.aload_n 0, 1) := by decide +kernel
theorem dX3_centsForAll_6 : decode cX3_centsForAll 6 = .ok (.getfield 22, 3) := by decide +kernel
theorem dX3_centsForAll_9 : decode cX3_centsForAll 9 = .ok (.invokevirtual 48, 3) := by decide +kernel
theorem dX3_centsForAll_12 : decode cX3_centsForAll 12 = .ok (.if_icmp .ge 28, 3) := by decide +kernel
theorem dX3_centsForAll_15 : decode cX3_centsForAll 15 = .ok (.lload_n 1, 1) := by decide +kernel
theorem dX3_centsForAll_16 : decode cX3_centsForAll 16 = .ok (.aload_n 0, 1) := by decide +kernel
theorem dX3_centsForAll_17 : decode cX3_centsForAll 17 = .ok (.aload_n 0, 1) := by decide +kernel
theorem dX3_centsForAll_18 : decode cX3_centsForAll 18 = .ok (.getfield 22, 3) := by decide +kernel
theorem dX3_centsForAll_21 : decode cX3_centsForAll 21 = .ok (.iload_n 3, 1) := by decide +kernel
theorem dX3_centsForAll_22 : decode cX3_centsForAll 22 = .ok (.invokevirtual 52, 3) := by decide +kernel
theorem dX3_centsForAll_25 : decode cX3_centsForAll 25 = .ok (.checkcast 33, 3) := by decide +kernel
theorem dX3_centsForAll_28 : decode cX3_centsForAll 28 = .ok (.invokevirtual 94, 3) := by decide +kernel
theorem dX3_centsForAll_31 : decode cX3_centsForAll 31 = .ok (.i2l, 1) := by decide +kernel
theorem dX3_centsForAll_32 : decode cX3_centsForAll 32 = .ok (.ladd, 1) := by decide +kernel
theorem dX3_centsForAll_33 : decode cX3_centsForAll 33 = .ok (.lstore_n 1, 1) := by decide +kernel
theorem dX3_centsForAll_34 : decode cX3_centsForAll 34 = .ok (.iinc 3 1, 3) := by decide +kernel
theorem dX3_centsForAll_37 : decode cX3_centsForAll 37 = .ok (.goto (-33), 3) := by decide +kernel
theorem dX3_centsForAll_40 : decode cX3_centsForAll 40 = .ok (.lload_n 1, 1) := by decide +kernel
theorem dX3_centsForAll_41 : decode cX3_centsForAll 41 = .ok (.lreturn, 1) := by decide +kernel
theorem dX4_init_0 : decode cX4_init 0 = .ok (.aload_n 0, 1) := by decide +kernel
theorem dX4_init_1 : decode cX4_init 1 = .ok (.invokespecial 1, 3) := by decide +kernel
theorem dX4_init_4 : decode cX4_init 4 = .ok (.return_, 1) := by decide +kernel
theorem dX4_copyFrom_0 : decode cX4_copyFrom 0 = .ok (.aload_n 0, 1) := by decide +kernel
theorem dX4_copyFrom_1 : decode cX4_copyFrom 1 = .ok (.aload_n 1, 1) := by decide +kernel
theorem dX4_copyFrom_2 : decode cX4_copyFrom 2 = .ok (.getfield 7, 3) := by decide +kernel
theorem dX4_copyFrom_5 : decode cX4_copyFrom 5 = .ok (.putfield 7, 3) := by decide +kernel
theorem dX4_copyFrom_8 : decode cX4_copyFrom 8 = .ok (.aload_n 0, 1) := by decide +kernel
theorem dX4_copyFrom_9 : decode cX4_copyFrom 9 = .ok (.aload_n 1, 1) := by decide +kernel
theorem dX4_copyFrom_10 : decode cX4_copyFrom 10 = .ok (.getfield 13, 3) := by decide +kernel
theorem dX4_copyFrom_13 : decode cX4_copyFrom 13 = .ok (.putfield 13, 3) := by decide +kernel
theorem dX4_copyFrom_16 : decode cX4_copyFrom 16 = .ok (.aload_n 0, 1) := by decide +kernel
theorem dX4_copyFrom_17 : decode cX4_copyFrom 17 = .ok (.aload_n 1, 1) := by decide +kernel
theorem dX4_copyFrom_18 : decode cX4_copyFrom 18 = .ok (.getfield 16, 3) := by decide +kernel
theorem dX4_copyFrom_21 : decode cX4_copyFrom 21 = .ok (.putfield 16, 3) := by decide +kernel
theorem dX4_copyFrom_24 : decode cX4_copyFrom 24 = .ok (.return_, 1) := by decide +kernel
theorem dX4_isAsMuchAs_0 : decode cX4_isAsMuchAs 0 = .ok (.aload_n 0, 1) := by decide +kernel
theorem dX4_isAsMuchAs_1 : decode cX4_isAsMuchAs 1 = .ok (.getfield 7, 3) := by decide +kernel
theorem dX4_isAsMuchAs_4 : decode cX4_isAsMuchAs 4 = .ok (.aload_n 1, 1) := by decide +kernel
theorem dX4_isAsMuchAs_5 : decode cX4_isAsMuchAs 5 = .ok (.getfield 7, 3) := by decide +kernel
theorem dX4_isAsMuchAs_8 : decode cX4_isAsMuchAs 8 = .ok (.if_icmp .ne 29, 3) := by decide +kernel
theorem dX4_isAsMuchAs_11 : decode cX4_isAsMuchAs 11 = .ok (.aload_n 0, 1) := by decide +kernel
theorem dX4_isAsMuchAs_12 : decode cX4_isAsMuchAs 12 = .ok (.getfield 13, 3) := by decide +kernel
theorem dX4_isAsMuchAs_15 : decode cX4_isAsMuchAs 15 = .ok (.aload_n 1, 1) := by decide +kernel
theorem dX4_isAsMuchAs_16 : decode cX4_isAsMuchAs 16 = .ok (.getfield 13, 3) := by decide +kernel
theorem dX4_isAsMuchAs_19 : decode cX4_isAsMuchAs 19 = .ok (.if_icmp .ne 18, 3) := by decide +kernel
theorem dX4_isAsMuchAs_22 : decode cX4_isAsMuchAs 22 = .ok (.aload_n 0, 1) := by decide +kernel
theorem dX4_isAsMuchAs_23 : decode cX4_isAsMuchAs 23 = .ok (.getfield 16, 3) := by decide +kernel
theorem dX4_isAsMuchAs_26 : decode cX4_isAsMuchAs 26 = .ok (.aload_n 1, 1) := by decide +kernel
theorem dX4_isAsMuchAs_27 : decode cX4_isAsMuchAs 27 = .ok (.getfield 16, 3) := by decide +kernel
theorem dX4_isAsMuchAs_30 : decode cX4_isAsMuchAs 30 = .ok (.if_icmp .ne 7, 3) := by decide +kernel
theorem dX4_isAsMuchAs_33 : decode cX4_isAsMuchAs 33 = .ok (.iconst 1, 1) := by decide +kernel
theorem dX4_isAsMuchAs_34 : decode cX4_isAsMuchAs 34 = .ok (.goto 4, 3) := by decide +kernel
theorem dX4_isAsMuchAs_37 : decode cX4_isAsMuchAs 37 = .ok (.iconst 0, 1) := by decide +kernel
theorem dX4_isAsMuchAs_38 : decode cX4_isAsMuchAs 38 = .ok (.ireturn, 1) := by decide +kernel
theorem dX4_envelopesOf_0 : decode cX4_envelopesOf 0 = .ok (.iload_n 1, 1) := by decide +kernel
theorem dX4_envelopesOf_1 : decode cX4_envelopesOf 1 = .ok (.ifCond .eq 10, 3) := by decide +kernel
theorem dX4_envelopesOf_4 : decode cX4_envelopesOf 4 = .ok (.aload_n 0, 1) := by decide +kernel
theorem dX4_envelopesOf_5 : decode cX4_envelopesOf 5 = .ok (.getfield 16, 3) := by decide +kernel
theorem dX4_envelopesOf_8 : decode cX4_envelopesOf 8 = .ok (.goto 7, 3) := by decide +kernel
theorem dX4_envelopesOf_11 : decode cX4_envelopesOf 11 = .ok (.aload_n 0, 1) := by decide +kernel
theorem dX4_envelopesOf_12 : decode cX4_envelopesOf 12 = .ok (.getfield 13, 3) := by decide +kernel
theorem dX4_envelopesOf_15 : decode cX4_envelopesOf 15 = .ok (.ireturn, 1) := by decide +kernel
theorem dX4_addEnvelopes_0 : decode cX4_addEnvelopes 0 = .ok (.iload_n 1, 1) := by decide +kernel
theorem dX4_addEnvelopes_1 : decode cX4_addEnvelopes 1 = .ok (.ifCond .eq 16, 3) := by decide +kernel
theorem dX4_addEnvelopes_4 : decode cX4_addEnvelopes 4 = .ok (.aload_n 0, 1) := by decide +kernel
theorem dX4_addEnvelopes_5 : decode cX4_addEnvelopes 5 = .ok (.dup, 1) := by decide +kernel
theorem dX4_addEnvelopes_6 : decode cX4_addEnvelopes 6 = .ok (.getfield 16, 3) := by decide +kernel
theorem dX4_addEnvelopes_9 : decode cX4_addEnvelopes 9 = .ok (.iload_n 2, 1) := by decide +kernel
theorem dX4_addEnvelopes_10 : decode cX4_addEnvelopes 10 = .ok (.iadd, 1) := by decide +kernel
theorem dX4_addEnvelopes_11 : decode cX4_addEnvelopes 11 = .ok (.putfield 16, 3) := by decide +kernel
theorem dX4_addEnvelopes_14 : decode cX4_addEnvelopes 14 = .ok (.goto 13, 3) := by decide +kernel
theorem dX4_addEnvelopes_17 : decode cX4_addEnvelopes 17 = .ok (.aload_n 0, 1) := by decide +kernel
theorem dX4_addEnvelopes_18 : decode cX4_addEnvelopes 18 = .ok (.dup, 1) := by decide +kernel
theorem dX4_addEnvelopes_19 : decode cX4_addEnvelopes 19 = .ok (.getfield 13, 3) := by decide +kernel
theorem dX4_addEnvelopes_22 : decode cX4_addEnvelopes 22 = .ok (.iload_n 2, 1) := by decide +kernel
theorem dX4_addEnvelopes_23 : decode cX4_addEnvelopes 23 = .ok (.iadd, 1) := by decide +kernel
theorem dX4_addEnvelopes_24 : decode cX4_addEnvelopes 24 = .ok (.putfield 13, 3) := by decide +kernel
theorem dX4_addEnvelopes_27 : decode cX4_addEnvelopes 27 = .ok (.return_, 1) := by decide +kernel
theorem dX4_take_0 : decode cX4_take 0 = .ok (.iload_n 1, 1) := by decide +kernel
theorem dX4_take_1 : decode cX4_take 1 = .ok (.invokestatic 19, 3) := by decide +kernel
theorem dX4_take_4 : decode cX4_take 4 = .ok (.istore_n 2, 1) := by decide +kernel
theorem dX4_take_5 : decode cX4_take 5 = .ok (.iload_n 1, 1) := by decide +kernel
theorem dX4_take_6 : decode cX4_take 6 = .ok (.aload_n 0, 1) := by decide +kernel
theorem dX4_take_7 : decode cX4_take 7 = .ok (.getfield 7, 3) := by decide +kernel
theorem dX4_take_10 : decode cX4_take 10 = .ok (.if_icmp .gt 12, 3) := by decide +kernel
theorem dX4_take_13 : decode cX4_take 13 = .ok (.aload_n 0, 1) := by decide +kernel
theorem dX4_take_14 : decode cX4_take 14 = .ok (.iload_n 2, 1) := by decide +kernel
theorem dX4_take_15 : decode cX4_take 15 = .ok (.invokevirtual 25, 3) := by decide +kernel
theorem dX4_take_18 : decode cX4_take 18 = .ok (.iconst 1, 1) := by decide +kernel
theorem dX4_take_19 : decode cX4_take 19 = .ok (.if_icmp .ge 5, 3) := by decide +kernel
theorem dX4_take_22 : decode cX4_take 22 = .ok (.iconst 0, 1) := by decide +kernel
theorem dX4_take_23 : decode cX4_take 23 = .ok (.ireturn, 1) := by decide +kernel
theorem dX4_take_24 : decode cX4_take 24 = .ok (.aload_n 0, 1) := by decide +kernel
theorem dX4_take_25 : decode cX4_take 25 = .ok (.dup, 1) := by decide +kernel
theorem dX4_take_26 : decode cX4_take 26 = .ok (.getfield 7, 3) := by decide +kernel
theorem dX4_take_29 : decode cX4_take 29 = .ok (.iload_n 1, 1) := by decide +kernel
theorem dX4_take_30 : decode cX4_take 30 = .ok (.isub, 1) := by decide +kernel
theorem dX4_take_31 : decode cX4_take 31 = .ok (.putfield 7, 3) := by decide +kernel
theorem dX4_take_34 : decode cX4_take 34 = .ok (.aload_n 0, 1) := by decide +kernel
theorem dX4_take_35 : decode cX4_take 35 = .ok (.iload_n 2, 1) := by decide +kernel
theorem dX4_take_36 : decode cX4_take 36 = .ok (.iconst (-1), 1) := by decide +kernel
theorem dX4_take_37 : decode cX4_take 37 = .ok (.invokevirtual 29, 3) := by decide +kernel
theorem dX4_take_40 : decode cX4_take 40 = .ok (.iconst 1, 1) := by decide +kernel
theorem dX4_take_41 : decode cX4_take 41 = .ok (.ireturn, 1) := by decide +kernel
theorem dX4_putBack_0 : decode cX4_putBack 0 = .ok (.aload_n 0, 1) := by decide +kernel
theorem dX4_putBack_1 : decode cX4_putBack 1 = .ok (.dup, 1) := by decide +kernel
theorem dX4_putBack_2 : decode cX4_putBack 2 = .ok (.getfield 7, 3) := by decide +kernel
theorem dX4_putBack_5 : decode cX4_putBack 5 = .ok (.iload_n 1, 1) := by decide +kernel
theorem dX4_putBack_6 : decode cX4_putBack 6 = .ok (.iadd, 1) := by decide +kernel
theorem dX4_putBack_7 : decode cX4_putBack 7 = .ok (.putfield 7, 3) := by decide +kernel
theorem dX4_putBack_10 : decode cX4_putBack 10 = .ok (.aload_n 0, 1) := by decide +kernel
theorem dX4_putBack_11 : decode cX4_putBack 11 = .ok (.iload_n 1, 1) := by decide +kernel
theorem dX4_putBack_12 : decode cX4_putBack 12 = .ok (.invokestatic 19, 3) := by decide +kernel
theorem dX4_putBack_15 : decode cX4_putBack 15 = .ok (.iconst 1, 1) := by decide +kernel
theorem dX4_putBack_16 : decode cX4_putBack 16 = .ok (.invokevirtual 29, 3) := by decide +kernel
theorem dX4_putBack_19 : decode cX4_putBack 19 = .ok (.return_, 1) := by decide +kernel
theorem dX5_init_0 : decode cX5_init 0 = .ok (.aload_n 0, 1) := by decide +kernel
theorem dX5_init_1 : decode cX5_init 1 = .ok (.invokespecial 3, 3) := by decide +kernel
theorem dX5_init_4 : decode cX5_init 4 = .ok (.aload_n 0, 1) := by decide +kernel
theorem dX5_init_5 : decode cX5_init 5 = .ok (.bipush 8, 2) := by decide +kernel
theorem dX5_init_7 : decode cX5_init 7 = .ok (.newarray .int, 2) := by decide +kernel
theorem dX5_init_9 : decode cX5_init 9 = .ok (.putfield 9, 3) := by decide +kernel
theorem dX5_init_12 : decode cX5_init 12 = .ok (.aload_n 0, 1) := by decide +kernel
theorem dX5_init_13 : decode cX5_init 13 = .ok (.bipush 8, 2) := by decide +kernel
theorem dX5_init_15 : decode cX5_init 15 = .ok (.newarray .int, 2) := by decide +kernel
theorem dX5_init_17 : decode cX5_init 17 = .ok (.putfield 15, 3) := by decide +kernel
theorem dX5_init_20 : decode cX5_init 20 = .ok (.aload_n 0, 1) := by decide +kernel
theorem dX5_init_21 : decode cX5_init 21 = .ok (.bipush 8, 2) := by decide +kernel
theorem dX5_init_23 : decode cX5_init 23 = .ok (.newarray .int, 2) := by decide +kernel
theorem dX5_init_25 : decode cX5_init 25 = .ok (.putfield 18, 3) := by decide +kernel
theorem dX5_init_28 : decode cX5_init 28 = .ok (.return_, 1) := by decide +kernel
theorem dX5_append_0 : decode cX5_append 0 = .ok (.iconst 0, 1) := by decide +kernel
theorem dX5_append_1 : decode cX5_append 1 = .ok (.istore 4, 2) := by decide +kernel
theorem dX5_append_3 : decode cX5_append 3 = .ok (.iload 4, 2) := by decide +kernel
theorem dX5_append_5 : decode cX5_append 5 = .ok (.bipush 7, 2) := by decide +kernel
theorem dX5_append_7 : decode cX5_append 7 = .ok (.if_icmp .gt 31, 3) := by decide +kernel
theorem dX5_append_10 : decode cX5_append 10 = .ok (.iload 4, 2) := by decide +kernel
theorem dX5_append_12 : decode cX5_append 12 = .ok (.iload_n 2, 1) := by decide +kernel
theorem dX5_append_13 : decode cX5_append 13 = .ok (.iand, 1) := by decide +kernel
theorem dX5_append_14 : decode cX5_append 14 = .ok (.iload_n 2, 1) := by decide +kernel
theorem dX5_append_15 : decode cX5_append 15 = .ok (.if_icmp .ne 17, 3) := by decide +kernel
theorem dX5_append_18 : decode cX5_append 18 = .ok (.iload 4, 2) := by decide +kernel
theorem dX5_append_20 : decode cX5_append 20 = .ok (.iload_n 3, 1) := by decide +kernel
theorem dX5_append_21 : decode cX5_append 21 = .ok (.iand, 1) := by decide +kernel
theorem dX5_append_22 : decode cX5_append 22 = .ok (.ifCond .ne 10, 3) := by decide +kernel
theorem dX5_append_25 : decode cX5_append 25 = .ok (.aload_n 0, 1) := by decide +kernel
theorem dX5_append_26 : decode cX5_append 26 = .ok (.iload 4, 2) := by decide +kernel
theorem dX5_append_28 : decode cX5_append 28 = .ok (.iload_n 1, 1) := by decide +kernel
theorem dX5_append_29 : decode cX5_append 29 = .ok (.invokevirtual 21, 3) := by decide +kernel
theorem dX5_append_32 : decode cX5_append 32 = .ok (.iinc 4 1, 3) := by decide +kernel
theorem dX5_append_35 : decode cX5_append 35 = .ok (.goto (-32), 3) := by decide +kernel
theorem dX5_append_38 : decode cX5_append 38 = .ok (.aload_n 0, 1) := by decide +kernel
theorem dX5_append_39 : decode cX5_append 39 = .ok (.dup, 1) := by decide +kernel
theorem dX5_append_40 : decode cX5_append 40 = .ok (.getfield 25, 3) := by decide +kernel
theorem dX5_append_43 : decode cX5_append 43 = .ok (.iconst 1, 1) := by decide +kernel
theorem dX5_append_44 : decode cX5_append 44 = .ok (.iadd, 1) := by decide +kernel
theorem dX5_append_45 : decode cX5_append 45 = .ok (.putfield 25, 3) := by decide +kernel
theorem dX5_append_48 : decode cX5_append 48 = .ok (.return_, 1) := by decide +kernel
theorem dX5_lay_0 : decode cX5_lay 0 = .ok (.iload_n 1, 1) := by decide +kernel
theorem dX5_lay_1 : decode cX5_lay 1 = .ok (.bipush 7, 2) := by decide +kernel
theorem dX5_lay_3 : decode cX5_lay 3 = .ok (.iand, 1) := by decide +kernel
theorem dX5_lay_4 : decode cX5_lay 4 = .ok (.istore_n 3, 1) := by decide +kernel
theorem dX5_lay_5 : decode cX5_lay 5 = .ok (.aload_n 0, 1) := by decide +kernel
theorem dX5_lay_6 : decode cX5_lay 6 = .ok (.getfield 15, 3) := by decide +kernel
theorem dX5_lay_9 : decode cX5_lay 9 = .ok (.iload_n 3, 1) := by decide +kernel
theorem dX5_lay_10 : decode cX5_lay 10 = .ok (.iaload, 1) := by decide +kernel
theorem dX5_lay_11 : decode cX5_lay 11 = .ok (.ifCond .eq 16, 3) := by decide +kernel
theorem dX5_lay_14 : decode cX5_lay 14 = .ok (.aload_n 0, 1) := by decide +kernel
theorem dX5_lay_15 : decode cX5_lay 15 = .ok (.getfield 18, 3) := by decide +kernel
theorem dX5_lay_18 : decode cX5_lay 18 = .ok (.iload_n 3, 1) := by decide +kernel
theorem dX5_lay_19 : decode cX5_lay 19 = .ok (.iaload, 1) := by decide +kernel
theorem dX5_lay_20 : decode cX5_lay 20 = .ok (.iload_n 2, 1) := by decide +kernel
theorem dX5_lay_21 : decode cX5_lay 21 = .ok (.iadd, 1) := by decide +kernel
theorem dX5_lay_22 : decode cX5_lay 22 = .ok (.bipush 40, 2) := by decide +kernel
theorem dX5_lay_24 : decode cX5_lay 24 = .ok (.if_icmp .le 20, 3) := by decide +kernel
theorem dX5_lay_27 : decode cX5_lay 27 = .ok (.aload_n 0, 1) := by decide +kernel
theorem dX5_lay_28 : decode cX5_lay 28 = .ok (.getfield 15, 3) := by decide +kernel
theorem dX5_lay_31 : decode cX5_lay 31 = .ok (.iload_n 3, 1) := by decide +kernel
theorem dX5_lay_32 : decode cX5_lay 32 = .ok (.dup2, 1) := by decide +kernel
theorem dX5_lay_33 : decode cX5_lay 33 = .ok (.iaload, 1) := by decide +kernel
theorem dX5_lay_34 : decode cX5_lay 34 = .ok (.iconst 1, 1) := by decide +kernel
theorem dX5_lay_35 : decode cX5_lay 35 = .ok (.iadd, 1) := by decide +kernel
theorem dX5_lay_36 : decode cX5_lay 36 = .ok (.iastore, 1) := by decide +kernel
theorem dX5_lay_37 : decode cX5_lay 37 = .ok (.aload_n 0, 1) := by decide +kernel
theorem dX5_lay_38 : decode cX5_lay 38 = .ok (.getfield 18, 3) := by decide +kernel
theorem dX5_lay_41 : decode cX5_lay 41 = .ok (.iload_n 3, 1) := by decide +kernel
theorem dX5_lay_42 : decode cX5_lay 42 = .ok (.iconst 0, 1) := by decide +kernel
theorem dX5_lay_43 : decode cX5_lay 43 = .ok (.iastore, 1) := by decide +kernel
theorem dX5_lay_44 : decode cX5_lay 44 = .ok (.aload_n 0, 1) := by decide +kernel
theorem dX5_lay_45 : decode cX5_lay 45 = .ok (.getfield 18, 3) := by decide +kernel
theorem dX5_lay_48 : decode cX5_lay 48 = .ok (.iload_n 3, 1) := by decide +kernel
theorem dX5_lay_49 : decode cX5_lay 49 = .ok (.dup2, 1) := by decide +kernel
theorem dX5_lay_50 : decode cX5_lay 50 = .ok (.iaload, 1) := by decide +kernel
theorem dX5_lay_51 : decode cX5_lay 51 = .ok (.iload_n 2, 1) := by decide +kernel
theorem dX5_lay_52 : decode cX5_lay 52 = .ok (.iadd, 1) := by decide +kernel
theorem dX5_lay_53 : decode cX5_lay 53 = .ok (.iastore, 1) := by decide +kernel
theorem dX5_lay_54 : decode cX5_lay 54 = .ok (.aload_n 0, 1) := by decide +kernel
theorem dX5_lay_55 : decode cX5_lay 55 = .ok (.getfield 9, 3) := by decide +kernel
theorem dX5_lay_58 : decode cX5_lay 58 = .ok (.iload_n 3, 1) := by decide +kernel
theorem dX5_lay_59 : decode cX5_lay 59 = .ok (.dup2, 1) := by decide +kernel
theorem dX5_lay_60 : decode cX5_lay 60 = .ok (.iaload, 1) := by decide +kernel
theorem dX5_lay_61 : decode cX5_lay 61 = .ok (.iconst 1, 1) := by decide +kernel
theorem dX5_lay_62 : decode cX5_lay 62 = .ok (.aload_n 0, 1) := by decide +kernel
theorem dX5_lay_63 : decode cX5_lay 63 = .ok (.getfield 25, 3) := by decide +kernel
theorem dX5_lay_66 : decode cX5_lay 66 = .ok (.ishl, 1) := by decide +kernel
theorem dX5_lay_67 : decode cX5_lay 67 = .ok (.ior, 1) := by decide +kernel
theorem dX5_lay_68 : decode cX5_lay 68 = .ok (.iastore, 1) := by decide +kernel
theorem dX5_lay_69 : decode cX5_lay 69 = .ok (.return_, 1) := by decide +kernel
theorem dX5_pagesWith_0 : decode cX5_pagesWith 0 = .ok (.aload_n 0, 1) := by decide +kernel
theorem dX5_pagesWith_1 : decode cX5_pagesWith 1 = .ok (.getfield 15, 3) := by decide +kernel
theorem dX5_pagesWith_4 : decode cX5_pagesWith 4 = .ok (.iload_n 1, 1) := by decide +kernel
theorem dX5_pagesWith_5 : decode cX5_pagesWith 5 = .ok (.bipush 7, 2) := by decide +kernel
theorem dX5_pagesWith_7 : decode cX5_pagesWith 7 = .ok (.iand, 1) := by decide +kernel
theorem dX5_pagesWith_8 : decode cX5_pagesWith 8 = .ok (.iaload, 1) := by decide +kernel
theorem dX5_pagesWith_9 : decode cX5_pagesWith 9 = .ok (.ireturn, 1) := by decide +kernel
theorem dX5_partsWith_0 : decode cX5_partsWith 0 = .ok (.aload_n 0, 1) := by decide +kernel
theorem dX5_partsWith_1 : decode cX5_partsWith 1 = .ok (.getfield 9, 3) := by decide +kernel
theorem dX5_partsWith_4 : decode cX5_partsWith 4 = .ok (.iload_n 1, 1) := by decide +kernel
theorem dX5_partsWith_5 : decode cX5_partsWith 5 = .ok (.bipush 7, 2) := by decide +kernel
theorem dX5_partsWith_7 : decode cX5_partsWith 7 = .ok (.iand, 1) := by decide +kernel
theorem dX5_partsWith_8 : decode cX5_partsWith 8 = .ok (.iaload, 1) := by decide +kernel
theorem dX5_partsWith_9 : decode cX5_partsWith 9 = .ok (.ireturn, 1) := by decide +kernel
theorem dX6_init_0 : decode cX6_init 0 = .ok (.aload_n 0, 1) := by decide +kernel
theorem dX6_init_1 : decode cX6_init 1 = .ok (.invokespecial 1, 3) := by decide +kernel
theorem dX6_init_4 : decode cX6_init 4 = .ok (.aload_n 0, 1) := by decide +kernel
theorem dX6_init_5 : decode cX6_init 5 = .ok (.new 7, 3) := by decide +kernel
theorem dX6_init_8 : decode cX6_init 8 = .ok (.dup, 1) := by decide +kernel
theorem dX6_init_9 : decode cX6_init 9 = .ok (.invokespecial 9, 3) := by decide +kernel
theorem dX6_init_12 : decode cX6_init 12 = .ok (.putfield 10, 3) := by decide +kernel
theorem dX6_init_15 : decode cX6_init 15 = .ok (.aload_n 0, 1) := by decide +kernel
theorem dX6_init_16 : decode cX6_init 16 = .ok (.new 7, 3) := by decide +kernel
theorem dX6_init_19 : decode cX6_init 19 = .ok (.dup, 1) := by decide +kernel
theorem dX6_init_20 : decode cX6_init 20 = .ok (.invokespecial 9, 3) := by decide +kernel
theorem dX6_init_23 : decode cX6_init 23 = .ok (.putfield 16, 3) := by decide +kernel
theorem dX6_init_26 : decode cX6_init 26 = .ok (.aload_n 0, 1) := by decide +kernel
theorem dX6_init_27 : decode cX6_init 27 = .ok (.new 7, 3) := by decide +kernel
theorem dX6_init_30 : decode cX6_init 30 = .ok (.dup, 1) := by decide +kernel
theorem dX6_init_31 : decode cX6_init 31 = .ok (.invokespecial 9, 3) := by decide +kernel
theorem dX6_init_34 : decode cX6_init 34 = .ok (.putfield 19, 3) := by decide +kernel
theorem dX6_init_37 : decode cX6_init 37 = .ok (.aload_n 0, 1) := by decide +kernel
theorem dX6_init_38 : decode cX6_init 38 = .ok (.new 7, 3) := by decide +kernel
theorem dX6_init_41 : decode cX6_init 41 = .ok (.dup, 1) := by decide +kernel
theorem dX6_init_42 : decode cX6_init 42 = .ok (.invokespecial 9, 3) := by decide +kernel
theorem dX6_init_45 : decode cX6_init 45 = .ok (.putfield 22, 3) := by decide +kernel
theorem dX6_init_48 : decode cX6_init 48 = .ok (.aload_n 0, 1) := by decide +kernel
theorem dX6_init_49 : decode cX6_init 49 = .ok (.new 25, 3) := by decide +kernel
theorem dX6_init_52 : decode cX6_init 52 = .ok (.dup, 1) := by decide +kernel
theorem dX6_init_53 : decode cX6_init 53 = .ok (.invokespecial 27, 3) := by decide +kernel
theorem dX6_init_56 : decode cX6_init 56 = .ok (.putfield 28, 3) := by decide +kernel
theorem dX6_init_59 : decode cX6_init 59 = .ok (.aload_n 0, 1) := by decide +kernel
theorem dX6_init_60 : decode cX6_init 60 = .ok (.new 25, 3) := by decide +kernel
theorem dX6_init_63 : decode cX6_init 63 = .ok (.dup, 1) := by decide +kernel
theorem dX6_init_64 : decode cX6_init 64 = .ok (.invokespecial 27, 3) := by decide +kernel
theorem dX6_init_67 : decode cX6_init 67 = .ok (.putfield 32, 3) := by decide +kernel
theorem dX6_init_70 : decode cX6_init 70 = .ok (.aload_n 0, 1) := by decide +kernel
theorem dX6_init_71 : decode cX6_init 71 = .ok (.new 25, 3) := by decide +kernel
theorem dX6_init_74 : decode cX6_init 74 = .ok (.dup, 1) := by decide +kernel
theorem dX6_init_75 : decode cX6_init 75 = .ok (.invokespecial 27, 3) := by decide +kernel
theorem dX6_init_78 : decode cX6_init 78 = .ok (.putfield 35, 3) := by decide +kernel
theorem dX6_init_81 : decode cX6_init 81 = .ok (.aload_n 0, 1) := by decide +kernel
theorem dX6_init_82 : decode cX6_init 82 = .ok (.iconst 3, 1) := by decide +kernel
theorem dX6_init_83 : decode cX6_init 83 = .ok (.putfield 38, 3) := by decide +kernel
theorem dX6_init_86 : decode cX6_init 86 = .ok (.return_, 1) := by decide +kernel
theorem dX6_addAddress_0 : decode cX6_addAddress 0 = .ok (.iload_n 1, 1) := by decide +kernel
theorem dX6_addAddress_1 : decode cX6_addAddress 1 = .ok (.ifCond .lt 9, 3) := by decide +kernel
theorem dX6_addAddress_4 : decode cX6_addAddress 4 = .ok (.iload_n 1, 1) := by decide +kernel
theorem dX6_addAddress_5 : decode cX6_addAddress 5 = .ok (.bipush 99, 2) := by decide +kernel
theorem dX6_addAddress_7 : decode cX6_addAddress 7 = .ok (.if_icmp .le 13, 3) := by decide +kernel
theorem dX6_addAddress_10 : decode cX6_addAddress 10 = .ok (.new 42, 3) := by decide +kernel
theorem dX6_addAddress_13 : decode cX6_addAddress 13 = .ok (.dup, 1) := by decide +kernel
theorem dX6_addAddress_14 : decode cX6_addAddress 14 = .ok (.ldc 44, 2) := by decide +kernel
theorem dX6_addAddress_16 : decode cX6_addAddress 16 = .ok (.invokespecial 46, 3) := by decide +kernel
theorem dX6_addAddress_19 : decode cX6_addAddress 19 = .ok (.athrow, 1) := by decide +kernel
theorem dX6_addAddress_20 : decode cX6_addAddress 20 = .ok (.aload_n 0, 1) := by decide +kernel
theorem dX6_addAddress_21 : decode cX6_addAddress 21 = .ok (.getfield 10, 3) := by decide +kernel
theorem dX6_addAddress_24 : decode cX6_addAddress 24 = .ok (.invokevirtual 49, 3) := by decide +kernel
theorem dX6_addAddress_27 : decode cX6_addAddress 27 = .ok (.bipush 12, 2) := by decide +kernel
theorem dX6_addAddress_29 : decode cX6_addAddress 29 = .ok (.if_icmp .lt 13, 3) := by decide +kernel
theorem dX6_addAddress_32 : decode cX6_addAddress 32 = .ok (.new 53, 3) := by decide +kernel
theorem dX6_addAddress_35 : decode cX6_addAddress 35 = .ok (.dup, 1) := by decide +kernel
theorem dX6_addAddress_36 : decode cX6_addAddress 36 = .ok (.ldc 55, 2) := by decide +kernel
theorem dX6_addAddress_38 : decode cX6_addAddress 38 = .ok (.invokespecial 57, 3) := by decide +kernel
theorem dX6_addAddress_41 : decode cX6_addAddress 41 = .ok (.athrow, 1) := by decide +kernel
theorem dX6_addAddress_42 : decode cX6_addAddress 42 = .ok (.aload_n 0, 1) := by decide +kernel
theorem dX6_addAddress_43 : decode cX6_addAddress 43 = .ok (.getfield 10, 3) := by decide +kernel
theorem dX6_addAddress_46 : decode cX6_addAddress 46 = .ok (.new 58, 3) := by decide +kernel
theorem dX6_addAddress_49 : decode cX6_addAddress 49 = .ok (.dup, 1) := by decide +kernel
theorem dX6_addAddress_50 : decode cX6_addAddress 50 = .ok (.aload_n 0, 1) := by decide +kernel
theorem dX6_addAddress_51 : decode cX6_addAddress 51 = .ok (.getfield 10, 3) := by decide +kernel
theorem dX6_addAddress_54 : decode cX6_addAddress 54 = .ok (.invokevirtual 49, 3) := by decide +kernel
theorem dX6_addAddress_57 : decode cX6_addAddress 57 = .ok (.iload_n 1, 1) := by decide +kernel
theorem dX6_addAddress_58 : decode cX6_addAddress 58 = .ok (.invokespecial 60, 3) := by decide +kernel
theorem dX6_addAddress_61 : decode cX6_addAddress 61 = .ok (.invokevirtual 63, 3) := by decide +kernel
theorem dX6_addAddress_64 : decode cX6_addAddress 64 = .ok (.pop, 1) := by decide +kernel
theorem dX6_addAddress_65 : decode cX6_addAddress 65 = .ok (.aload_n 0, 1) := by decide +kernel
theorem dX6_addAddress_66 : decode cX6_addAddress 66 = .ok (.getfield 10, 3) := by decide +kernel
theorem dX6_addAddress_69 : decode cX6_addAddress 69 = .ok (.invokevirtual 49, 3) := by decide +kernel
theorem dX6_addAddress_72 : decode cX6_addAddress 72 = .ok (.iconst 1, 1) := by decide +kernel
theorem dX6_addAddress_73 : decode cX6_addAddress 73 = .ok (.isub, 1) := by decide +kernel
theorem dX6_addAddress_74 : decode cX6_addAddress 74 = .ok (.ireturn, 1) := by decide +kernel
theorem dX6_join_0 : decode cX6_join 0 = .ok (.aload_n 0, 1) := by decide +kernel
theorem dX6_join_1 : decode cX6_join 1 = .ok (.iload_n 1, 1) := by decide +kernel
theorem dX6_join_2 : decode cX6_join 2 = .ok (.invokevirtual 67, 3) := by decide +kernel
theorem dX6_join_5 : decode cX6_join 5 = .ok (.astore_n 3, 1) := by decide +kernel
theorem dX6_join_6 : decode cX6_join 6 = .ok (.aload_n 0, 1) := by decide +kernel
theorem dX6_join_7 : decode cX6_join 7 = .ok (.iload_n 2, 1) := by decide +kernel
theorem dX6_join_8 : decode cX6_join 8 = .ok (.invokevirtual 67, 3) := by decide +kernel
theorem dX6_join_11 : decode cX6_join 11 = .ok (.astore 4, 2) := by decide +kernel
theorem dX6_join_13 : decode cX6_join 13 = .ok (.iload_n 1, 1) := by decide +kernel
theorem dX6_join_14 : decode cX6_join 14 = .ok (.iload_n 2, 1) := by decide +kernel
theorem dX6_join_15 : decode cX6_join 15 = .ok (.if_icmp .ne 13, 3) := by decide +kernel
theorem dX6_join_18 : decode cX6_join 18 = .ok (.new 42, 3) := by decide +kernel
theorem dX6_join_21 : decode cX6_join 21 = .ok (.dup, 1) := by decide +kernel
theorem dX6_join_22 : decode cX6_join 22 = .ok (.ldc 71, 2) := by decide +kernel
theorem dX6_join_24 : decode cX6_join 24 = .ok (.invokespecial 46, 3) := by decide +kernel
theorem dX6_join_27 : decode cX6_join 27 = .ok (.athrow, 1) := by decide +kernel
theorem dX6_join_28 : decode cX6_join 28 = .ok (.iconst 0, 1) := by decide +kernel
theorem dX6_join_29 : decode cX6_join 29 = .ok (.istore 5, 2) := by decide +kernel
theorem dX6_join_31 : decode cX6_join 31 = .ok (.iconst 0, 1) := by decide +kernel
theorem dX6_join_32 : decode cX6_join 32 = .ok (.istore 6, 2) := by decide +kernel
theorem dX6_join_34 : decode cX6_join 34 = .ok (.iload 6, 2) := by decide +kernel
theorem dX6_join_36 : decode cX6_join 36 = .ok (.aload_n 0, 1) := by decide +kernel
theorem dX6_join_37 : decode cX6_join 37 = .ok (.getfield 16, 3) := by decide +kernel
theorem dX6_join_40 : decode cX6_join 40 = .ok (.invokevirtual 49, 3) := by decide +kernel
theorem dX6_join_43 : decode cX6_join 43 = .ok (.if_icmp .ge 42, 3) := by decide +kernel
theorem dX6_join_46 : decode cX6_join 46 = .ok (.aload_n 0, 1) := by decide +kernel
theorem dX6_join_47 : decode cX6_join 47 = .ok (.getfield 16, 3) := by decide +kernel
theorem dX6_join_50 : decode cX6_join 50 = .ok (.iload 6, 2) := by decide +kernel
theorem dX6_join_52 : decode cX6_join 52 = .ok (.invokevirtual 73, 3) := by decide +kernel
theorem dX6_join_55 : decode cX6_join 55 = .ok (.checkcast 77, 3) := by decide +kernel
theorem dX6_join_58 : decode cX6_join 58 = .ok (.astore 7, 2) := by decide +kernel
theorem dX6_join_60 : decode cX6_join 60 = .ok (.aload 7, 2) := by decide +kernel
theorem dX6_join_62 : decode cX6_join 62 = .ok (.getfield 79, 3) := by decide +kernel
theorem dX6_join_65 : decode cX6_join 65 = .ok (.aload 4, 2) := by decide +kernel
theorem dX6_join_67 : decode cX6_join 67 = .ok (.if_acmp .ne 12, 3) := by decide +kernel
theorem dX6_join_70 : decode cX6_join 70 = .ok (.aload 7, 2) := by decide +kernel
theorem dX6_join_72 : decode cX6_join 72 = .ok (.aload_n 3, 1) := by decide +kernel
theorem dX6_join_73 : decode cX6_join 73 = .ok (.putfield 79, 3) := by decide +kernel
theorem dX6_join_76 : decode cX6_join 76 = .ok (.iinc 5 1, 3) := by decide +kernel
theorem dX6_join_79 : decode cX6_join 79 = .ok (.iinc 6 1, 3) := by decide +kernel
theorem dX6_join_82 : decode cX6_join 82 = .ok (.goto (-48), 3) := by decide +kernel
theorem dX6_join_85 : decode cX6_join 85 = .ok (.aload_n 3, 1) := by decide +kernel
theorem dX6_join_86 : decode cX6_join 86 = .ok (.dup, 1) := by decide +kernel
theorem dX6_join_87 : decode cX6_join 87 = .ok (.getfield 83, 3) := by decide +kernel
theorem dX6_join_90 : decode cX6_join 90 = .ok (.aload 4, 2) := by decide +kernel
theorem dX6_join_92 : decode cX6_join 92 = .ok (.getfield 83, 3) := by decide +kernel
theorem dX6_join_95 : decode cX6_join 95 = .ok (.iadd, 1) := by decide +kernel
theorem dX6_join_96 : decode cX6_join 96 = .ok (.putfield 83, 3) := by decide +kernel
theorem dX6_join_99 : decode cX6_join 99 = .ok (.aload 4, 2) := by decide +kernel
theorem dX6_join_101 : decode cX6_join 101 = .ok (.iconst 1, 1) := by decide +kernel
theorem dX6_join_102 : decode cX6_join 102 = .ok (.putfield 86, 3) := by decide +kernel
theorem dX6_join_105 : decode cX6_join 105 = .ok (.iload 5, 2) := by decide +kernel
theorem dX6_join_107 : decode cX6_join 107 = .ok (.ireturn, 1) := by decide +kernel
theorem dX6_addPerson_0 : decode cX6_addPerson 0 = .ok (.aload_n 0, 1) := by decide +kernel
theorem dX6_addPerson_1 : decode cX6_addPerson 1 = .ok (.iload_n 1, 1) := by decide +kernel
theorem dX6_addPerson_2 : decode cX6_addPerson 2 = .ok (.invokevirtual 67, 3) := by decide +kernel
theorem dX6_addPerson_5 : decode cX6_addPerson 5 = .ok (.astore_n 3, 1) := by decide +kernel
theorem dX6_addPerson_6 : decode cX6_addPerson 6 = .ok (.iload_n 2, 1) := by decide +kernel
theorem dX6_addPerson_7 : decode cX6_addPerson 7 = .ok (.invokestatic 90, 3) := by decide +kernel
theorem dX6_addPerson_10 : decode cX6_addPerson 10 = .ok (.aload_n 0, 1) := by decide +kernel
theorem dX6_addPerson_11 : decode cX6_addPerson 11 = .ok (.getfield 16, 3) := by decide +kernel
theorem dX6_addPerson_14 : decode cX6_addPerson 14 = .ok (.invokevirtual 49, 3) := by decide +kernel
theorem dX6_addPerson_17 : decode cX6_addPerson 17 = .ok (.bipush 24, 2) := by decide +kernel
theorem dX6_addPerson_19 : decode cX6_addPerson 19 = .ok (.if_icmp .lt 13, 3) := by decide +kernel
theorem dX6_addPerson_22 : decode cX6_addPerson 22 = .ok (.new 53, 3) := by decide +kernel
theorem dX6_addPerson_25 : decode cX6_addPerson 25 = .ok (.dup, 1) := by decide +kernel
theorem dX6_addPerson_26 : decode cX6_addPerson 26 = .ok (.ldc 94, 2) := by decide +kernel
theorem dX6_addPerson_28 : decode cX6_addPerson 28 = .ok (.invokespecial 57, 3) := by decide +kernel
theorem dX6_addPerson_31 : decode cX6_addPerson 31 = .ok (.athrow, 1) := by decide +kernel
theorem dX6_addPerson_32 : decode cX6_addPerson 32 = .ok (.aload_n 0, 1) := by decide +kernel
theorem dX6_addPerson_33 : decode cX6_addPerson 33 = .ok (.getfield 16, 3) := by decide +kernel
theorem dX6_addPerson_36 : decode cX6_addPerson 36 = .ok (.new 77, 3) := by decide +kernel
theorem dX6_addPerson_39 : decode cX6_addPerson 39 = .ok (.dup, 1) := by decide +kernel
theorem dX6_addPerson_40 : decode cX6_addPerson 40 = .ok (.aload_n 3, 1) := by decide +kernel
theorem dX6_addPerson_41 : decode cX6_addPerson 41 = .ok (.iload_n 2, 1) := by decide +kernel
theorem dX6_addPerson_42 : decode cX6_addPerson 42 = .ok (.invokespecial 96, 3) := by decide +kernel
theorem dX6_addPerson_45 : decode cX6_addPerson 45 = .ok (.invokevirtual 63, 3) := by decide +kernel
theorem dX6_addPerson_48 : decode cX6_addPerson 48 = .ok (.pop, 1) := by decide +kernel
theorem dX6_addPerson_49 : decode cX6_addPerson 49 = .ok (.aload_n 0, 1) := by decide +kernel
theorem dX6_addPerson_50 : decode cX6_addPerson 50 = .ok (.getfield 16, 3) := by decide +kernel
theorem dX6_addPerson_53 : decode cX6_addPerson 53 = .ok (.invokevirtual 49, 3) := by decide +kernel
theorem dX6_addPerson_56 : decode cX6_addPerson 56 = .ok (.iconst 1, 1) := by decide +kernel
theorem dX6_addPerson_57 : decode cX6_addPerson 57 = .ok (.isub, 1) := by decide +kernel
theorem dX6_addPerson_58 : decode cX6_addPerson 58 = .ok (.ireturn, 1) := by decide +kernel
theorem dX6_setFlags_0 : decode cX6_setFlags 0 = .ok (.aload_n 0, 1) := by decide +kernel
theorem dX6_setFlags_1 : decode cX6_setFlags 1 = .ok (.iload_n 1, 1) := by decide +kernel
theorem dX6_setFlags_2 : decode cX6_setFlags 2 = .ok (.invokevirtual 99, 3) := by decide +kernel
theorem dX6_setFlags_5 : decode cX6_setFlags 5 = .ok (.astore_n 3, 1) := by decide +kernel
theorem dX6_setFlags_6 : decode cX6_setFlags 6 = .ok (.iload_n 2, 1) := by decide +kernel
theorem dX6_setFlags_7 : decode cX6_setFlags 7 = .ok (.invokestatic 90, 3) := by decide +kernel
theorem dX6_setFlags_10 : decode cX6_setFlags 10 = .ok (.aload_n 3, 1) := by decide +kernel
theorem dX6_setFlags_11 : decode cX6_setFlags 11 = .ok (.getfield 103, 3) := by decide +kernel
theorem dX6_setFlags_14 : decode cX6_setFlags 14 = .ok (.istore 4, 2) := by decide +kernel
theorem dX6_setFlags_16 : decode cX6_setFlags 16 = .ok (.aload_n 3, 1) := by decide +kernel
theorem dX6_setFlags_17 : decode cX6_setFlags 17 = .ok (.iload_n 2, 1) := by decide +kernel
theorem dX6_setFlags_18 : decode cX6_setFlags 18 = .ok (.putfield 103, 3) := by decide +kernel
theorem dX6_setFlags_21 : decode cX6_setFlags 21 = .ok (.iload 4, 2) := by decide +kernel
theorem dX6_setFlags_23 : decode cX6_setFlags 23 = .ok (.ireturn, 1) := by decide +kernel
theorem dX6_move_0 : decode cX6_move 0 = .ok (.aload_n 0, 1) := by decide +kernel
theorem dX6_move_1 : decode cX6_move 1 = .ok (.iload_n 1, 1) := by decide +kernel
theorem dX6_move_2 : decode cX6_move 2 = .ok (.invokevirtual 99, 3) := by decide +kernel
theorem dX6_move_5 : decode cX6_move 5 = .ok (.astore_n 3, 1) := by decide +kernel
theorem dX6_move_6 : decode cX6_move 6 = .ok (.aload_n 0, 1) := by decide +kernel
theorem dX6_move_7 : decode cX6_move 7 = .ok (.iload_n 2, 1) := by decide +kernel
theorem dX6_move_8 : decode cX6_move 8 = .ok (.invokevirtual 67, 3) := by decide +kernel
theorem dX6_move_11 : decode cX6_move 11 = .ok (.astore 4, 2) := by decide +kernel
theorem dX6_move_13 : decode cX6_move 13 = .ok (.aload_n 3, 1) := by decide +kernel
theorem dX6_move_14 : decode cX6_move 14 = .ok (.getfield 79, 3) := by decide +kernel
theorem dX6_move_17 : decode cX6_move 17 = .ok (.getfield 106, 3) := by decide +kernel
theorem dX6_move_20 : decode cX6_move 20 = .ok (.istore 5, 2) := by decide +kernel
theorem dX6_move_22 : decode cX6_move 22 = .ok (.aload_n 3, 1) := by decide +kernel
theorem dX6_move_23 : decode cX6_move 23 = .ok (.aload 4, 2) := by decide +kernel
theorem dX6_move_25 : decode cX6_move 25 = .ok (.putfield 79, 3) := by decide +kernel
theorem dX6_move_28 : decode cX6_move 28 = .ok (.aload_n 3, 1) := by decide +kernel
theorem dX6_move_29 : decode cX6_move 29 = .ok (.getfield 109, 3) := by decide +kernel
theorem dX6_move_32 : decode cX6_move 32 = .ok (.bipush 109, 2) := by decide +kernel
theorem dX6_move_34 : decode cX6_move 34 = .ok (.if_icmp .ne 9, 3) := by decide +kernel
theorem dX6_move_37 : decode cX6_move 37 = .ok (.aload_n 3, 1) := by decide +kernel
theorem dX6_move_38 : decode cX6_move 38 = .ok (.bipush 45, 2) := by decide +kernel
theorem dX6_move_40 : decode cX6_move 40 = .ok (.putfield 109, 3) := by decide +kernel
theorem dX6_move_43 : decode cX6_move 43 = .ok (.iload 5, 2) := by decide +kernel
theorem dX6_move_45 : decode cX6_move 45 = .ok (.ireturn, 1) := by decide +kernel
theorem dX6_suppress_0 : decode cX6_suppress 0 = .ok (.aload_n 0, 1) := by decide +kernel
theorem dX6_suppress_1 : decode cX6_suppress 1 = .ok (.iload_n 1, 1) := by decide +kernel
theorem dX6_suppress_2 : decode cX6_suppress 2 = .ok (.invokevirtual 99, 3) := by decide +kernel
theorem dX6_suppress_5 : decode cX6_suppress 5 = .ok (.astore_n 3, 1) := by decide +kernel
theorem dX6_suppress_6 : decode cX6_suppress 6 = .ok (.iload_n 2, 1) := by decide +kernel
theorem dX6_suppress_7 : decode cX6_suppress 7 = .ok (.bipush 109, 2) := by decide +kernel
theorem dX6_suppress_9 : decode cX6_suppress 9 = .ok (.if_icmp .eq 25, 3) := by decide +kernel
theorem dX6_suppress_12 : decode cX6_suppress 12 = .ok (.iload_n 2, 1) := by decide +kernel
theorem dX6_suppress_13 : decode cX6_suppress 13 = .ok (.bipush 100, 2) := by decide +kernel
theorem dX6_suppress_15 : decode cX6_suppress 15 = .ok (.if_icmp .eq 19, 3) := by decide +kernel
theorem dX6_suppress_18 : decode cX6_suppress 18 = .ok (.iload_n 2, 1) := by decide +kernel
theorem dX6_suppress_19 : decode cX6_suppress 19 = .ok (.bipush 111, 2) := by decide +kernel
theorem dX6_suppress_21 : decode cX6_suppress 21 = .ok (.if_icmp .eq 13, 3) := by decide +kernel
theorem dX6_suppress_24 : decode cX6_suppress 24 = .ok (.new 42, 3) := by decide +kernel
theorem dX6_suppress_27 : decode cX6_suppress 27 = .ok (.dup, 1) := by decide +kernel
theorem dX6_suppress_28 : decode cX6_suppress 28 = .ok (.ldc 113, 2) := by decide +kernel
theorem dX6_suppress_30 : decode cX6_suppress 30 = .ok (.invokespecial 46, 3) := by decide +kernel
theorem dX6_suppress_33 : decode cX6_suppress 33 = .ok (.athrow, 1) := by decide +kernel
theorem dX6_suppress_34 : decode cX6_suppress 34 = .ok (.aload_n 3, 1) := by decide +kernel
theorem dX6_suppress_35 : decode cX6_suppress 35 = .ok (.getfield 109, 3) := by decide +kernel
theorem dX6_suppress_38 : decode cX6_suppress 38 = .ok (.istore 4, 2) := by decide +kernel
theorem dX6_suppress_40 : decode cX6_suppress 40 = .ok (.aload_n 3, 1) := by decide +kernel
theorem dX6_suppress_41 : decode cX6_suppress 41 = .ok (.iload_n 2, 1) := by decide +kernel
theorem dX6_suppress_42 : decode cX6_suppress 42 = .ok (.putfield 109, 3) := by decide +kernel
theorem dX6_suppress_45 : decode cX6_suppress 45 = .ok (.iload 4, 2) := by decide +kernel
theorem dX6_suppress_47 : decode cX6_suppress 47 = .ok (.ireturn, 1) := by decide +kernel
theorem dX6_allow_0 : decode cX6_allow 0 = .ok (.aload_n 0, 1) := by decide +kernel
theorem dX6_allow_1 : decode cX6_allow 1 = .ok (.iload_n 1, 1) := by decide +kernel
theorem dX6_allow_2 : decode cX6_allow 2 = .ok (.invokevirtual 99, 3) := by decide +kernel
theorem dX6_allow_5 : decode cX6_allow 5 = .ok (.astore_n 2, 1) := by decide +kernel
theorem dX6_allow_6 : decode cX6_allow 6 = .ok (.aload_n 2, 1) := by decide +kernel
theorem dX6_allow_7 : decode cX6_allow 7 = .ok (.invokevirtual 115, 3) := by decide +kernel
theorem dX6_allow_10 : decode cX6_allow 10 = .ok (.ifCond .eq 12, 3) := by decide +kernel
theorem dX6_allow_13 : decode cX6_allow 13 = .ok (.aload_n 2, 1) := by decide +kernel
theorem dX6_allow_14 : decode cX6_allow 14 = .ok (.getfield 109, 3) := by decide +kernel
theorem dX6_allow_17 : decode cX6_allow 17 = .ok (.bipush 100, 2) := by decide +kernel
theorem dX6_allow_19 : decode cX6_allow 19 = .ok (.if_icmp .ne 13, 3) := by decide +kernel
theorem dX6_allow_22 : decode cX6_allow 22 = .ok (.new 53, 3) := by decide +kernel
theorem dX6_allow_25 : decode cX6_allow 25 = .ok (.dup, 1) := by decide +kernel
theorem dX6_allow_26 : decode cX6_allow 26 = .ok (.ldc 119, 2) := by decide +kernel
theorem dX6_allow_28 : decode cX6_allow 28 = .ok (.invokespecial 57, 3) := by decide +kernel
theorem dX6_allow_31 : decode cX6_allow 31 = .ok (.athrow, 1) := by decide +kernel
theorem dX6_allow_32 : decode cX6_allow 32 = .ok (.aload_n 2, 1) := by decide +kernel
theorem dX6_allow_33 : decode cX6_allow 33 = .ok (.getfield 109, 3) := by decide +kernel
theorem dX6_allow_36 : decode cX6_allow 36 = .ok (.istore_n 3, 1) := by decide +kernel
theorem dX6_allow_37 : decode cX6_allow 37 = .ok (.aload_n 2, 1) := by decide +kernel
theorem dX6_allow_38 : decode cX6_allow 38 = .ok (.bipush 45, 2) := by decide +kernel
theorem dX6_allow_40 : decode cX6_allow 40 = .ok (.putfield 109, 3) := by decide +kernel
theorem dX6_allow_43 : decode cX6_allow 43 = .ok (.iload_n 3, 1) := by decide +kernel
theorem dX6_allow_44 : decode cX6_allow 44 = .ok (.ireturn, 1) := by decide +kernel
theorem dX6_addressOf_0 : decode cX6_addressOf 0 = .ok (.aload_n 0, 1) := by decide +kernel
theorem dX6_addressOf_1 : decode cX6_addressOf 1 = .ok (.iload_n 1, 1) := by decide +kernel
theorem dX6_addressOf_2 : decode cX6_addressOf 2 = .ok (.invokevirtual 99, 3) := by decide +kernel
theorem dX6_addressOf_5 : decode cX6_addressOf 5 = .ok (.getfield 79, 3) := by decide +kernel
theorem dX6_addressOf_8 : decode cX6_addressOf 8 = .ok (.getfield 106, 3) := by decide +kernel
theorem dX6_addressOf_11 : decode cX6_addressOf 11 = .ok (.ireturn, 1) := by decide +kernel
theorem dX6_reasonOf_0 : decode cX6_reasonOf 0 = .ok (.aload_n 0, 1) := by decide +kernel
theorem dX6_reasonOf_1 : decode cX6_reasonOf 1 = .ok (.iload_n 1, 1) := by decide +kernel
theorem dX6_reasonOf_2 : decode cX6_reasonOf 2 = .ok (.invokevirtual 99, 3) := by decide +kernel
theorem dX6_reasonOf_5 : decode cX6_reasonOf 5 = .ok (.getfield 109, 3) := by decide +kernel
theorem dX6_reasonOf_8 : decode cX6_reasonOf 8 = .ok (.ireturn, 1) := by decide +kernel
theorem dX6_strikes_0 : decode cX6_strikes 0 = .ok (.aload_n 0, 1) := by decide +kernel
theorem dX6_strikes_1 : decode cX6_strikes 1 = .ok (.iload_n 1, 1) := by decide +kernel
theorem dX6_strikes_2 : decode cX6_strikes 2 = .ok (.invokevirtual 67, 3) := by decide +kernel
theorem dX6_strikes_5 : decode cX6_strikes 5 = .ok (.getfield 83, 3) := by decide +kernel
theorem dX6_strikes_8 : decode cX6_strikes 8 = .ok (.ireturn, 1) := by decide +kernel
theorem dX6_addTemplate_0 : decode cX6_addTemplate 0 = .ok (.aload_n 0, 1) := by decide +kernel
theorem dX6_addTemplate_1 : decode cX6_addTemplate 1 = .ok (.getfield 19, 3) := by decide +kernel
theorem dX6_addTemplate_4 : decode cX6_addTemplate 4 = .ok (.invokevirtual 49, 3) := by decide +kernel
theorem dX6_addTemplate_7 : decode cX6_addTemplate 7 = .ok (.iconst 4, 1) := by decide +kernel
theorem dX6_addTemplate_8 : decode cX6_addTemplate 8 = .ok (.if_icmp .lt 13, 3) := by decide +kernel
theorem dX6_addTemplate_11 : decode cX6_addTemplate 11 = .ok (.new 53, 3) := by decide +kernel
theorem dX6_addTemplate_14 : decode cX6_addTemplate 14 = .ok (.dup, 1) := by decide +kernel
theorem dX6_addTemplate_15 : decode cX6_addTemplate 15 = .ok (.ldc 121, 2) := by decide +kernel
theorem dX6_addTemplate_17 : decode cX6_addTemplate 17 = .ok (.invokespecial 57, 3) := by decide +kernel
theorem dX6_addTemplate_20 : decode cX6_addTemplate 20 = .ok (.athrow, 1) := by decide +kernel
theorem dX6_addTemplate_21 : decode cX6_addTemplate 21 = .ok (.aload_n 0, 1) := by decide +kernel
theorem dX6_addTemplate_22 : decode cX6_addTemplate 22 = .ok (.getfield 19, 3) := by decide +kernel
theorem dX6_addTemplate_25 : decode cX6_addTemplate 25 = .ok (.new 123, 3) := by decide +kernel
theorem dX6_addTemplate_28 : decode cX6_addTemplate 28 = .ok (.dup, 1) := by decide +kernel
theorem dX6_addTemplate_29 : decode cX6_addTemplate 29 = .ok (.invokespecial 125, 3) := by decide +kernel
theorem dX6_addTemplate_32 : decode cX6_addTemplate 32 = .ok (.invokevirtual 63, 3) := by decide +kernel
theorem dX6_addTemplate_35 : decode cX6_addTemplate 35 = .ok (.pop, 1) := by decide +kernel
theorem dX6_addTemplate_36 : decode cX6_addTemplate 36 = .ok (.aload_n 0, 1) := by decide +kernel
theorem dX6_addTemplate_37 : decode cX6_addTemplate 37 = .ok (.getfield 19, 3) := by decide +kernel
theorem dX6_addTemplate_40 : decode cX6_addTemplate 40 = .ok (.invokevirtual 49, 3) := by decide +kernel
theorem dX6_addTemplate_43 : decode cX6_addTemplate 43 = .ok (.iconst 1, 1) := by decide +kernel
theorem dX6_addTemplate_44 : decode cX6_addTemplate 44 = .ok (.isub, 1) := by decide +kernel
theorem dX6_addTemplate_45 : decode cX6_addTemplate 45 = .ok (.ireturn, 1) := by decide +kernel
theorem dX6_addPart_0 : decode cX6_addPart 0 = .ok (.aload_n 0, 1) := by decide +kernel
theorem dX6_addPart_1 : decode cX6_addPart 1 = .ok (.iload_n 1, 1) := by decide +kernel
theorem dX6_addPart_2 : decode cX6_addPart 2 = .ok (.invokevirtual 126, 3) := by decide +kernel
theorem dX6_addPart_5 : decode cX6_addPart 5 = .ok (.astore 5, 2) := by decide +kernel
theorem dX6_addPart_7 : decode cX6_addPart 7 = .ok (.iload_n 2, 1) := by decide +kernel
theorem dX6_addPart_8 : decode cX6_addPart 8 = .ok (.iconst 1, 1) := by decide +kernel
theorem dX6_addPart_9 : decode cX6_addPart 9 = .ok (.if_icmp .lt 9, 3) := by decide +kernel
theorem dX6_addPart_12 : decode cX6_addPart 12 = .ok (.iload_n 2, 1) := by decide +kernel
theorem dX6_addPart_13 : decode cX6_addPart 13 = .ok (.bipush 40, 2) := by decide +kernel
theorem dX6_addPart_15 : decode cX6_addPart 15 = .ok (.if_icmp .le 13, 3) := by decide +kernel
theorem dX6_addPart_18 : decode cX6_addPart 18 = .ok (.new 42, 3) := by decide +kernel
theorem dX6_addPart_21 : decode cX6_addPart 21 = .ok (.dup, 1) := by decide +kernel
theorem dX6_addPart_22 : decode cX6_addPart 22 = .ok (.ldc 130, 2) := by decide +kernel
theorem dX6_addPart_24 : decode cX6_addPart 24 = .ok (.invokespecial 46, 3) := by decide +kernel
theorem dX6_addPart_27 : decode cX6_addPart 27 = .ok (.athrow, 1) := by decide +kernel
theorem dX6_addPart_28 : decode cX6_addPart 28 = .ok (.iload_n 3, 1) := by decide +kernel
theorem dX6_addPart_29 : decode cX6_addPart 29 = .ok (.invokestatic 90, 3) := by decide +kernel
theorem dX6_addPart_32 : decode cX6_addPart 32 = .ok (.iload 4, 2) := by decide +kernel
theorem dX6_addPart_34 : decode cX6_addPart 34 = .ok (.invokestatic 90, 3) := by decide +kernel
theorem dX6_addPart_37 : decode cX6_addPart 37 = .ok (.aload 5, 2) := by decide +kernel
theorem dX6_addPart_39 : decode cX6_addPart 39 = .ok (.getfield 132, 3) := by decide +kernel
theorem dX6_addPart_42 : decode cX6_addPart 42 = .ok (.bipush 8, 2) := by decide +kernel
theorem dX6_addPart_44 : decode cX6_addPart 44 = .ok (.if_icmp .ge 11, 3) := by decide +kernel
theorem dX6_addPart_47 : decode cX6_addPart 47 = .ok (.aload 5, 2) := by decide +kernel
theorem dX6_addPart_49 : decode cX6_addPart 49 = .ok (.getfield 135, 3) := by decide +kernel
theorem dX6_addPart_52 : decode cX6_addPart 52 = .ok (.ifCond .eq 13, 3) := by decide +kernel
theorem dX6_addPart_55 : decode cX6_addPart 55 = .ok (.new 53, 3) := by decide +kernel
theorem dX6_addPart_58 : decode cX6_addPart 58 = .ok (.dup, 1) := by decide +kernel
theorem dX6_addPart_59 : decode cX6_addPart 59 = .ok (.ldc 138, 2) := by decide +kernel
theorem dX6_addPart_61 : decode cX6_addPart 61 = .ok (.invokespecial 57, 3) := by decide +kernel
theorem dX6_addPart_64 : decode cX6_addPart 64 = .ok (.athrow, 1) := by decide +kernel
theorem dX6_addPart_65 : decode cX6_addPart 65 = .ok (.aload 5, 2) := by decide +kernel
theorem dX6_addPart_67 : decode cX6_addPart 67 = .ok (.iload_n 2, 1) := by decide +kernel
theorem dX6_addPart_68 : decode cX6_addPart 68 = .ok (.iload_n 3, 1) := by decide +kernel
theorem dX6_addPart_69 : decode cX6_addPart 69 = .ok (.iload 4, 2) := by decide +kernel
theorem dX6_addPart_71 : decode cX6_addPart 71 = .ok (.invokevirtual 140, 3) := by decide +kernel
theorem dX6_addPart_74 : decode cX6_addPart 74 = .ok (.aload 5, 2) := by decide +kernel
theorem dX6_addPart_76 : decode cX6_addPart 76 = .ok (.getfield 132, 3) := by decide +kernel
theorem dX6_addPart_79 : decode cX6_addPart 79 = .ok (.ireturn, 1) := by decide +kernel
theorem dX6_pagesFor_0 : decode cX6_pagesFor 0 = .ok (.aload_n 0, 1) := by decide +kernel
theorem dX6_pagesFor_1 : decode cX6_pagesFor 1 = .ok (.iload_n 1, 1) := by decide +kernel
theorem dX6_pagesFor_2 : decode cX6_pagesFor 2 = .ok (.invokevirtual 126, 3) := by decide +kernel
theorem dX6_pagesFor_5 : decode cX6_pagesFor 5 = .ok (.astore_n 3, 1) := by decide +kernel
theorem dX6_pagesFor_6 : decode cX6_pagesFor 6 = .ok (.iload_n 2, 1) := by decide +kernel
theorem dX6_pagesFor_7 : decode cX6_pagesFor 7 = .ok (.invokestatic 90, 3) := by decide +kernel
theorem dX6_pagesFor_10 : decode cX6_pagesFor 10 = .ok (.aload_n 3, 1) := by decide +kernel
theorem dX6_pagesFor_11 : decode cX6_pagesFor 11 = .ok (.iload_n 2, 1) := by decide +kernel
theorem dX6_pagesFor_12 : decode cX6_pagesFor 12 = .ok (.invokevirtual 144, 3) := by decide +kernel
theorem dX6_pagesFor_15 : decode cX6_pagesFor 15 = .ok (.ireturn, 1) := by decide +kernel
theorem dX6_buyPaper_0 : decode cX6_buyPaper 0 = .ok (.aload_n 0, 1) := by decide +kernel
theorem dX6_buyPaper_1 : decode cX6_buyPaper 1 = .ok (.getfield 28, 3) := by decide +kernel
theorem dX6_buyPaper_4 : decode cX6_buyPaper 4 = .ok (.getfield 148, 3) := by decide +kernel
theorem dX6_buyPaper_7 : decode cX6_buyPaper 7 = .ok (.iload_n 1, 1) := by decide +kernel
theorem dX6_buyPaper_8 : decode cX6_buyPaper 8 = .ok (.invokestatic 151, 3) := by decide +kernel
theorem dX6_buyPaper_11 : decode cX6_buyPaper 11 = .ok (.aload_n 0, 1) := by decide +kernel
theorem dX6_buyPaper_12 : decode cX6_buyPaper 12 = .ok (.getfield 28, 3) := by decide +kernel
theorem dX6_buyPaper_15 : decode cX6_buyPaper 15 = .ok (.dup, 1) := by decide +kernel
theorem dX6_buyPaper_16 : decode cX6_buyPaper 16 = .ok (.getfield 148, 3) := by decide +kernel
theorem dX6_buyPaper_19 : decode cX6_buyPaper 19 = .ok (.iload_n 1, 1) := by decide +kernel
theorem dX6_buyPaper_20 : decode cX6_buyPaper 20 = .ok (.iadd, 1) := by decide +kernel
theorem dX6_buyPaper_21 : decode cX6_buyPaper 21 = .ok (.putfield 148, 3) := by decide +kernel
theorem dX6_buyPaper_24 : decode cX6_buyPaper 24 = .ok (.aload_n 0, 1) := by decide +kernel
theorem dX6_buyPaper_25 : decode cX6_buyPaper 25 = .ok (.getfield 32, 3) := by decide +kernel
theorem dX6_buyPaper_28 : decode cX6_buyPaper 28 = .ok (.dup, 1) := by decide +kernel
theorem dX6_buyPaper_29 : decode cX6_buyPaper 29 = .ok (.getfield 148, 3) := by decide +kernel
theorem dX6_buyPaper_32 : decode cX6_buyPaper 32 = .ok (.iload_n 1, 1) := by decide +kernel
theorem dX6_buyPaper_33 : decode cX6_buyPaper 33 = .ok (.iadd, 1) := by decide +kernel
theorem dX6_buyPaper_34 : decode cX6_buyPaper 34 = .ok (.putfield 148, 3) := by decide +kernel
theorem dX6_buyPaper_37 : decode cX6_buyPaper 37 = .ok (.aload_n 0, 1) := by decide +kernel
theorem dX6_buyPaper_38 : decode cX6_buyPaper 38 = .ok (.getfield 28, 3) := by decide +kernel
theorem dX6_buyPaper_41 : decode cX6_buyPaper 41 = .ok (.getfield 148, 3) := by decide +kernel
theorem dX6_buyPaper_44 : decode cX6_buyPaper 44 = .ok (.ireturn, 1) := by decide +kernel
theorem dX6_buyEnvelopes_0 : decode cX6_buyEnvelopes 0 = .ok (.aload_n 0, 1) := by decide +kernel
theorem dX6_buyEnvelopes_1 : decode cX6_buyEnvelopes 1 = .ok (.getfield 28, 3) := by decide +kernel
theorem dX6_buyEnvelopes_4 : decode cX6_buyEnvelopes 4 = .ok (.iload_n 1, 1) := by decide +kernel
theorem dX6_buyEnvelopes_5 : decode cX6_buyEnvelopes 5 = .ok (.invokevirtual 154, 3) := by decide +kernel
theorem dX6_buyEnvelopes_8 : decode cX6_buyEnvelopes 8 = .ok (.iload_n 2, 1) := by decide +kernel
theorem dX6_buyEnvelopes_9 : decode cX6_buyEnvelopes 9 = .ok (.invokestatic 151, 3) := by decide +kernel
theorem dX6_buyEnvelopes_12 : decode cX6_buyEnvelopes 12 = .ok (.aload_n 0, 1) := by decide +kernel
theorem dX6_buyEnvelopes_13 : decode cX6_buyEnvelopes 13 = .ok (.getfield 28, 3) := by decide +kernel
theorem dX6_buyEnvelopes_16 : decode cX6_buyEnvelopes 16 = .ok (.iload_n 1, 1) := by decide +kernel
theorem dX6_buyEnvelopes_17 : decode cX6_buyEnvelopes 17 = .ok (.iload_n 2, 1) := by decide +kernel
theorem dX6_buyEnvelopes_18 : decode cX6_buyEnvelopes 18 = .ok (.invokevirtual 158, 3) := by decide +kernel
theorem dX6_buyEnvelopes_21 : decode cX6_buyEnvelopes 21 = .ok (.aload_n 0, 1) := by decide +kernel
theorem dX6_buyEnvelopes_22 : decode cX6_buyEnvelopes 22 = .ok (.getfield 32, 3) := by decide +kernel
theorem dX6_buyEnvelopes_25 : decode cX6_buyEnvelopes 25 = .ok (.iload_n 1, 1) := by decide +kernel
theorem dX6_buyEnvelopes_26 : decode cX6_buyEnvelopes 26 = .ok (.iload_n 2, 1) := by decide +kernel
theorem dX6_buyEnvelopes_27 : decode cX6_buyEnvelopes 27 = .ok (.invokevirtual 158, 3) := by decide +kernel
theorem dX6_buyEnvelopes_30 : decode cX6_buyEnvelopes 30 = .ok (.aload_n 0, 1) := by decide +kernel
theorem dX6_buyEnvelopes_31 : decode cX6_buyEnvelopes 31 = .ok (.getfield 28, 3) := by decide +kernel
theorem dX6_buyEnvelopes_34 : decode cX6_buyEnvelopes 34 = .ok (.iload_n 1, 1) := by decide +kernel
theorem dX6_buyEnvelopes_35 : decode cX6_buyEnvelopes 35 = .ok (.invokevirtual 154, 3) := by decide +kernel
theorem dX6_buyEnvelopes_38 : decode cX6_buyEnvelopes 38 = .ok (.ireturn, 1) := by decide +kernel
theorem dX6_paper_0 : decode cX6_paper 0 = .ok (.aload_n 0, 1) := by decide +kernel
theorem dX6_paper_1 : decode cX6_paper 1 = .ok (.getfield 28, 3) := by decide +kernel
theorem dX6_paper_4 : decode cX6_paper 4 = .ok (.getfield 148, 3) := by decide +kernel
theorem dX6_paper_7 : decode cX6_paper 7 = .ok (.ireturn, 1) := by decide +kernel
theorem dX6_envelopes_0 : decode cX6_envelopes 0 = .ok (.aload_n 0, 1) := by decide +kernel
theorem dX6_envelopes_1 : decode cX6_envelopes 1 = .ok (.getfield 28, 3) := by decide +kernel
theorem dX6_envelopes_4 : decode cX6_envelopes 4 = .ok (.iload_n 1, 1) := by decide +kernel
theorem dX6_envelopes_5 : decode cX6_envelopes 5 = .ok (.invokevirtual 154, 3) := by decide +kernel
theorem dX6_envelopes_8 : decode cX6_envelopes 8 = .ok (.ireturn, 1) := by decide +kernel
theorem dX6_run_0 : decode cX6_run 0 = .ok (.aload_n 0, 1) := by decide +kernel
theorem dX6_run_1 : decode cX6_run 1 = .ok (.iload_n 1, 1) := by decide +kernel
theorem dX6_run_2 : decode cX6_run 2 = .ok (.invokevirtual 126, 3) := by decide +kernel
theorem dX6_run_5 : decode cX6_run 5 = .ok (.astore_n 3, 1) := by decide +kernel
theorem dX6_run_6 : decode cX6_run 6 = .ok (.aload_n 0, 1) := by decide +kernel
theorem dX6_run_7 : decode cX6_run 7 = .ok (.getfield 22, 3) := by decide +kernel
theorem dX6_run_10 : decode cX6_run 10 = .ok (.invokevirtual 49, 3) := by decide +kernel
theorem dX6_run_13 : decode cX6_run 13 = .ok (.bipush 10, 2) := by decide +kernel
theorem dX6_run_15 : decode cX6_run 15 = .ok (.if_icmp .lt 13, 3) := by decide +kernel
theorem dX6_run_18 : decode cX6_run 18 = .ok (.new 53, 3) := by decide +kernel
theorem dX6_run_21 : decode cX6_run 21 = .ok (.dup, 1) := by decide +kernel
theorem dX6_run_22 : decode cX6_run 22 = .ok (.ldc 162, 2) := by decide +kernel
theorem dX6_run_24 : decode cX6_run 24 = .ok (.invokespecial 57, 3) := by decide +kernel
theorem dX6_run_27 : decode cX6_run 27 = .ok (.athrow, 1) := by decide +kernel
theorem dX6_run_28 : decode cX6_run 28 = .ok (.aload_n 0, 1) := by decide +kernel
theorem dX6_run_29 : decode cX6_run 29 = .ok (.aload_n 3, 1) := by decide +kernel
theorem dX6_run_30 : decode cX6_run 30 = .ok (.iload_n 2, 1) := by decide +kernel
theorem dX6_run_31 : decode cX6_run 31 = .ok (.invokevirtual 164, 3) := by decide +kernel
theorem dX6_run_34 : decode cX6_run 34 = .ok (.new 168, 3) := by decide +kernel
theorem dX6_run_37 : decode cX6_run 37 = .ok (.dup, 1) := by decide +kernel
theorem dX6_run_38 : decode cX6_run 38 = .ok (.aload_n 0, 1) := by decide +kernel
theorem dX6_run_39 : decode cX6_run 39 = .ok (.getfield 38, 3) := by decide +kernel
theorem dX6_run_42 : decode cX6_run 42 = .ok (.invokespecial 170, 3) := by decide +kernel
theorem dX6_run_45 : decode cX6_run 45 = .ok (.astore 4, 2) := by decide +kernel
theorem dX6_run_47 : decode cX6_run 47 = .ok (.iconst 0, 1) := by decide +kernel
theorem dX6_run_48 : decode cX6_run 48 = .ok (.istore 5, 2) := by decide +kernel
theorem dX6_run_50 : decode cX6_run 50 = .ok (.iload 5, 2) := by decide +kernel
theorem dX6_run_52 : decode cX6_run 52 = .ok (.aload_n 0, 1) := by decide +kernel
theorem dX6_run_53 : decode cX6_run 53 = .ok (.getfield 16, 3) := by decide +kernel
theorem dX6_run_56 : decode cX6_run 56 = .ok (.invokevirtual 49, 3) := by decide +kernel
theorem dX6_run_59 : decode cX6_run 59 = .ok (.if_icmp .ge 36, 3) := by decide +kernel
theorem dX6_run_62 : decode cX6_run 62 = .ok (.aload 4, 2) := by decide +kernel
theorem dX6_run_64 : decode cX6_run 64 = .ok (.new 172, 3) := by decide +kernel
theorem dX6_run_67 : decode cX6_run 67 = .ok (.dup, 1) := by decide +kernel
theorem dX6_run_68 : decode cX6_run 68 = .ok (.iload 5, 2) := by decide +kernel
theorem dX6_run_70 : decode cX6_run 70 = .ok (.aload_n 0, 1) := by decide +kernel
theorem dX6_run_71 : decode cX6_run 71 = .ok (.getfield 16, 3) := by decide +kernel
theorem dX6_run_74 : decode cX6_run 74 = .ok (.iload 5, 2) := by decide +kernel
theorem dX6_run_76 : decode cX6_run 76 = .ok (.invokevirtual 73, 3) := by decide +kernel
theorem dX6_run_79 : decode cX6_run 79 = .ok (.checkcast 77, 3) := by decide +kernel
theorem dX6_run_82 : decode cX6_run 82 = .ok (.aload_n 3, 1) := by decide +kernel
theorem dX6_run_83 : decode cX6_run 83 = .ok (.invokespecial 174, 3) := by decide +kernel
theorem dX6_run_86 : decode cX6_run 86 = .ok (.invokevirtual 177, 3) := by decide +kernel
theorem dX6_run_89 : decode cX6_run 89 = .ok (.iinc 5 1, 3) := by decide +kernel
theorem dX6_run_92 : decode cX6_run 92 = .ok (.goto (-42), 3) := by decide +kernel
theorem dX6_run_95 : decode cX6_run 95 = .ok (.aload 4, 2) := by decide +kernel
theorem dX6_run_97 : decode cX6_run 97 = .ok (.invokevirtual 181, 3) := by decide +kernel
theorem dX6_run_100 : decode cX6_run 100 = .ok (.iconst 0, 1) := by decide +kernel
theorem dX6_run_101 : decode cX6_run 101 = .ok (.istore 5, 2) := by decide +kernel
theorem dX6_run_103 : decode cX6_run 103 = .ok (.iload 5, 2) := by decide +kernel
theorem dX6_run_105 : decode cX6_run 105 = .ok (.aload_n 0, 1) := by decide +kernel
theorem dX6_run_106 : decode cX6_run 106 = .ok (.getfield 10, 3) := by decide +kernel
theorem dX6_run_109 : decode cX6_run 109 = .ok (.invokevirtual 49, 3) := by decide +kernel
theorem dX6_run_112 : decode cX6_run 112 = .ok (.if_icmp .ge 24, 3) := by decide +kernel
theorem dX6_run_115 : decode cX6_run 115 = .ok (.aload_n 0, 1) := by decide +kernel
theorem dX6_run_116 : decode cX6_run 116 = .ok (.getfield 10, 3) := by decide +kernel
theorem dX6_run_119 : decode cX6_run 119 = .ok (.iload 5, 2) := by decide +kernel
theorem dX6_run_121 : decode cX6_run 121 = .ok (.invokevirtual 73, 3) := by decide +kernel
theorem dX6_run_124 : decode cX6_run 124 = .ok (.checkcast 58, 3) := by decide +kernel
theorem dX6_run_127 : decode cX6_run 127 = .ok (.invokevirtual 184, 3) := by decide +kernel
theorem dX6_run_130 : decode cX6_run 130 = .ok (.iinc 5 1, 3) := by decide +kernel
theorem dX6_run_133 : decode cX6_run 133 = .ok (.goto (-30), 3) := by decide +kernel
theorem dX6_run_136 : decode cX6_run 136 = .ok (.aload_n 0, 1) := by decide +kernel
theorem dX6_run_137 : decode cX6_run 137 = .ok (.getfield 28, 3) := by decide +kernel
theorem dX6_run_140 : decode cX6_run 140 = .ok (.aload_n 0, 1) := by decide +kernel
theorem dX6_run_141 : decode cX6_run 141 = .ok (.getfield 35, 3) := by decide +kernel
theorem dX6_run_144 : decode cX6_run 144 = .ok (.invokevirtual 187, 3) := by decide +kernel
theorem dX6_run_147 : decode cX6_run 147 = .ok (.aload_n 3, 1) := by decide +kernel
theorem dX6_run_148 : decode cX6_run 148 = .ok (.iconst 1, 1) := by decide +kernel
theorem dX6_run_149 : decode cX6_run 149 = .ok (.putfield 135, 3) := by decide +kernel
theorem dX6_run_152 : decode cX6_run 152 = .ok (.aload_n 0, 1) := by decide +kernel
theorem dX6_run_153 : decode cX6_run 153 = .ok (.getfield 22, 3) := by decide +kernel
theorem dX6_run_156 : decode cX6_run 156 = .ok (.aload 4, 2) := by decide +kernel
theorem dX6_run_158 : decode cX6_run 158 = .ok (.invokevirtual 63, 3) := by decide +kernel
theorem dX6_run_161 : decode cX6_run 161 = .ok (.pop, 1) := by decide +kernel
theorem dX6_run_162 : decode cX6_run 162 = .ok (.aload_n 0, 1) := by decide +kernel
theorem dX6_run_163 : decode cX6_run 163 = .ok (.getfield 22, 3) := by decide +kernel
theorem dX6_run_166 : decode cX6_run 166 = .ok (.invokevirtual 49, 3) := by decide +kernel
theorem dX6_run_169 : decode cX6_run 169 = .ok (.iconst 1, 1) := by decide +kernel
theorem dX6_run_170 : decode cX6_run 170 = .ok (.isub, 1) := by decide +kernel
theorem dX6_run_171 : decode cX6_run 171 = .ok (.ireturn, 1) := by decide +kernel
theorem dX6_preview_0 : decode cX6_preview 0 = .ok (.aload_n 0, 1) := by decide +kernel
theorem dX6_preview_1 : decode cX6_preview 1 = .ok (.iload_n 1, 1) := by decide +kernel
theorem dX6_preview_2 : decode cX6_preview 2 = .ok (.invokevirtual 126, 3) := by decide +kernel
theorem dX6_preview_5 : decode cX6_preview 5 = .ok (.astore 4, 2) := by decide +kernel
theorem dX6_preview_7 : decode cX6_preview 7 = .ok (.aload_n 0, 1) := by decide +kernel
theorem dX6_preview_8 : decode cX6_preview 8 = .ok (.iload_n 3, 1) := by decide +kernel
theorem dX6_preview_9 : decode cX6_preview 9 = .ok (.invokevirtual 99, 3) := by decide +kernel
theorem dX6_preview_12 : decode cX6_preview 12 = .ok (.astore 5, 2) := by decide +kernel
theorem dX6_preview_14 : decode cX6_preview 14 = .ok (.aload_n 0, 1) := by decide +kernel
theorem dX6_preview_15 : decode cX6_preview 15 = .ok (.aload 4, 2) := by decide +kernel
theorem dX6_preview_17 : decode cX6_preview 17 = .ok (.iload_n 2, 1) := by decide +kernel
theorem dX6_preview_18 : decode cX6_preview 18 = .ok (.invokevirtual 164, 3) := by decide +kernel
theorem dX6_preview_21 : decode cX6_preview 21 = .ok (.aload 5, 2) := by decide +kernel
theorem dX6_preview_23 : decode cX6_preview 23 = .ok (.getfield 191, 3) := by decide +kernel
theorem dX6_preview_26 : decode cX6_preview 26 = .ok (.ireturn, 1) := by decide +kernel
theorem dX6_previewAlone_0 : decode cX6_previewAlone 0 = .ok (.aload_n 0, 1) := by decide +kernel
theorem dX6_previewAlone_1 : decode cX6_previewAlone 1 = .ok (.iload_n 1, 1) := by decide +kernel
theorem dX6_previewAlone_2 : decode cX6_previewAlone 2 = .ok (.invokevirtual 126, 3) := by decide +kernel
theorem dX6_previewAlone_5 : decode cX6_previewAlone 5 = .ok (.astore 4, 2) := by decide +kernel
theorem dX6_previewAlone_7 : decode cX6_previewAlone 7 = .ok (.aload_n 0, 1) := by decide +kernel
theorem dX6_previewAlone_8 : decode cX6_previewAlone 8 = .ok (.iload_n 3, 1) := by decide +kernel
theorem dX6_previewAlone_9 : decode cX6_previewAlone 9 = .ok (.invokevirtual 99, 3) := by decide +kernel
theorem dX6_previewAlone_12 : decode cX6_previewAlone 12 = .ok (.pop, 1) := by decide +kernel
theorem dX6_previewAlone_13 : decode cX6_previewAlone 13 = .ok (.aload_n 0, 1) := by decide +kernel
theorem dX6_previewAlone_14 : decode cX6_previewAlone 14 = .ok (.aload 4, 2) := by decide +kernel
theorem dX6_previewAlone_16 : decode cX6_previewAlone 16 = .ok (.iload_n 2, 1) := by decide +kernel
theorem dX6_previewAlone_17 : decode cX6_previewAlone 17 = .ok (.iload_n 3, 1) := by decide +kernel
theorem dX6_previewAlone_18 : decode cX6_previewAlone 18 = .ok (.invokevirtual 194, 3) := by decide +kernel
theorem dX6_previewAlone_21 : decode cX6_previewAlone 21 = .ok (.ireturn, 1) := by decide +kernel
theorem dX6_outcome_0 : decode cX6_outcome 0 = .ok (.aload_n 0, 1) := by decide +kernel
theorem dX6_outcome_1 : decode cX6_outcome 1 = .ok (.iload_n 1, 1) := by decide +kernel
theorem dX6_outcome_2 : decode cX6_outcome 2 = .ok (.iload_n 2, 1) := by decide +kernel
theorem dX6_outcome_3 : decode cX6_outcome 3 = .ok (.invokevirtual 198, 3) := by decide +kernel
theorem dX6_outcome_6 : decode cX6_outcome 6 = .ok (.getfield 202, 3) := by decide +kernel
theorem dX6_outcome_9 : decode cX6_outcome 9 = .ok (.ireturn, 1) := by decide +kernel
theorem dX6_comesBack_0 : decode cX6_comesBack 0 = .ok (.aload_n 0, 1) := by decide +kernel
theorem dX6_comesBack_1 : decode cX6_comesBack 1 = .ok (.iload_n 1, 1) := by decide +kernel
theorem dX6_comesBack_2 : decode cX6_comesBack 2 = .ok (.iload_n 2, 1) := by decide +kernel
theorem dX6_comesBack_3 : decode cX6_comesBack 3 = .ok (.invokevirtual 198, 3) := by decide +kernel
theorem dX6_comesBack_6 : decode cX6_comesBack 6 = .ok (.astore 4, 2) := by decide +kernel
theorem dX6_comesBack_8 : decode cX6_comesBack 8 = .ok (.iload_n 3, 1) := by decide +kernel
theorem dX6_comesBack_9 : decode cX6_comesBack 9 = .ok (.bipush 117, 2) := by decide +kernel
theorem dX6_comesBack_11 : decode cX6_comesBack 11 = .ok (.if_icmp .eq 25, 3) := by decide +kernel
theorem dX6_comesBack_14 : decode cX6_comesBack 14 = .ok (.iload_n 3, 1) := by decide +kernel
theorem dX6_comesBack_15 : decode cX6_comesBack 15 = .ok (.bipush 109, 2) := by decide +kernel
theorem dX6_comesBack_17 : decode cX6_comesBack 17 = .ok (.if_icmp .eq 19, 3) := by decide +kernel
theorem dX6_comesBack_20 : decode cX6_comesBack 20 = .ok (.iload_n 3, 1) := by decide +kernel
theorem dX6_comesBack_21 : decode cX6_comesBack 21 = .ok (.bipush 100, 2) := by decide +kernel
theorem dX6_comesBack_23 : decode cX6_comesBack 23 = .ok (.if_icmp .eq 13, 3) := by decide +kernel
theorem dX6_comesBack_26 : decode cX6_comesBack 26 = .ok (.new 42, 3) := by decide +kernel
theorem dX6_comesBack_29 : decode cX6_comesBack 29 = .ok (.dup, 1) := by decide +kernel
theorem dX6_comesBack_30 : decode cX6_comesBack 30 = .ok (.ldc 205, 2) := by decide +kernel
theorem dX6_comesBack_32 : decode cX6_comesBack 32 = .ok (.invokespecial 46, 3) := by decide +kernel
theorem dX6_comesBack_35 : decode cX6_comesBack 35 = .ok (.athrow, 1) := by decide +kernel
theorem dX6_comesBack_36 : decode cX6_comesBack 36 = .ok (.aload 4, 2) := by decide +kernel
theorem dX6_comesBack_38 : decode cX6_comesBack 38 = .ok (.invokevirtual 207, 3) := by decide +kernel
theorem dX6_comesBack_41 : decode cX6_comesBack 41 = .ok (.ifCond .eq 11, 3) := by decide +kernel
theorem dX6_comesBack_44 : decode cX6_comesBack 44 = .ok (.aload 4, 2) := by decide +kernel
theorem dX6_comesBack_46 : decode cX6_comesBack 46 = .ok (.getfield 210, 3) := by decide +kernel
theorem dX6_comesBack_49 : decode cX6_comesBack 49 = .ok (.ifCond .eq 13, 3) := by decide +kernel
theorem dX6_comesBack_52 : decode cX6_comesBack 52 = .ok (.new 53, 3) := by decide +kernel
theorem dX6_comesBack_55 : decode cX6_comesBack 55 = .ok (.dup, 1) := by decide +kernel
theorem dX6_comesBack_56 : decode cX6_comesBack 56 = .ok (.ldc 213, 2) := by decide +kernel
theorem dX6_comesBack_58 : decode cX6_comesBack 58 = .ok (.invokespecial 57, 3) := by decide +kernel
theorem dX6_comesBack_61 : decode cX6_comesBack 61 = .ok (.athrow, 1) := by decide +kernel
theorem dX6_comesBack_62 : decode cX6_comesBack 62 = .ok (.aload 4, 2) := by decide +kernel
theorem dX6_comesBack_64 : decode cX6_comesBack 64 = .ok (.iconst 1, 1) := by decide +kernel
theorem dX6_comesBack_65 : decode cX6_comesBack 65 = .ok (.putfield 210, 3) := by decide +kernel
theorem dX6_comesBack_68 : decode cX6_comesBack 68 = .ok (.iload_n 3, 1) := by decide +kernel
theorem dX6_comesBack_69 : decode cX6_comesBack 69 = .ok (.bipush 117, 2) := by decide +kernel
theorem dX6_comesBack_71 : decode cX6_comesBack 71 = .ok (.if_icmp .ne 23, 3) := by decide +kernel
theorem dX6_comesBack_74 : decode cX6_comesBack 74 = .ok (.aload 4, 2) := by decide +kernel
theorem dX6_comesBack_76 : decode cX6_comesBack 76 = .ok (.getfield 215, 3) := by decide +kernel
theorem dX6_comesBack_79 : decode cX6_comesBack 79 = .ok (.getfield 79, 3) := by decide +kernel
theorem dX6_comesBack_82 : decode cX6_comesBack 82 = .ok (.dup, 1) := by decide +kernel
theorem dX6_comesBack_83 : decode cX6_comesBack 83 = .ok (.getfield 83, 3) := by decide +kernel
theorem dX6_comesBack_86 : decode cX6_comesBack 86 = .ok (.iconst 1, 1) := by decide +kernel
theorem dX6_comesBack_87 : decode cX6_comesBack 87 = .ok (.iadd, 1) := by decide +kernel
theorem dX6_comesBack_88 : decode cX6_comesBack 88 = .ok (.putfield 83, 3) := by decide +kernel
theorem dX6_comesBack_91 : decode cX6_comesBack 91 = .ok (.goto 12, 3) := by decide +kernel
theorem dX6_comesBack_94 : decode cX6_comesBack 94 = .ok (.aload 4, 2) := by decide +kernel
theorem dX6_comesBack_96 : decode cX6_comesBack 96 = .ok (.getfield 215, 3) := by decide +kernel
theorem dX6_comesBack_99 : decode cX6_comesBack 99 = .ok (.iload_n 3, 1) := by decide +kernel
theorem dX6_comesBack_100 : decode cX6_comesBack 100 = .ok (.putfield 109, 3) := by decide +kernel
theorem dX6_comesBack_103 : decode cX6_comesBack 103 = .ok (.aload_n 0, 1) := by decide +kernel
theorem dX6_comesBack_104 : decode cX6_comesBack 104 = .ok (.iload_n 1, 1) := by decide +kernel
theorem dX6_comesBack_105 : decode cX6_comesBack 105 = .ok (.invokevirtual 219, 3) := by decide +kernel
theorem dX6_comesBack_108 : decode cX6_comesBack 108 = .ok (.invokevirtual 223, 3) := by decide +kernel
theorem dX6_comesBack_111 : decode cX6_comesBack 111 = .ok (.ireturn, 1) := by decide +kernel
theorem dX6_setBound_0 : decode cX6_setBound 0 = .ok (.iload_n 1, 1) := by decide +kernel
theorem dX6_setBound_1 : decode cX6_setBound 1 = .ok (.iconst 1, 1) := by decide +kernel
theorem dX6_setBound_2 : decode cX6_setBound 2 = .ok (.if_icmp .lt 9, 3) := by decide +kernel
theorem dX6_setBound_5 : decode cX6_setBound 5 = .ok (.iload_n 1, 1) := by decide +kernel
theorem dX6_setBound_6 : decode cX6_setBound 6 = .ok (.bipush 24, 2) := by decide +kernel
theorem dX6_setBound_8 : decode cX6_setBound 8 = .ok (.if_icmp .le 13, 3) := by decide +kernel
theorem dX6_setBound_11 : decode cX6_setBound 11 = .ok (.new 42, 3) := by decide +kernel
theorem dX6_setBound_14 : decode cX6_setBound 14 = .ok (.dup, 1) := by decide +kernel
theorem dX6_setBound_15 : decode cX6_setBound 15 = .ok (.ldc 226, 2) := by decide +kernel
theorem dX6_setBound_17 : decode cX6_setBound 17 = .ok (.invokespecial 46, 3) := by decide +kernel
theorem dX6_setBound_20 : decode cX6_setBound 20 = .ok (.athrow, 1) := by decide +kernel
theorem dX6_setBound_21 : decode cX6_setBound 21 = .ok (.aload_n 0, 1) := by decide +kernel
theorem dX6_setBound_22 : decode cX6_setBound 22 = .ok (.getfield 38, 3) := by decide +kernel
theorem dX6_setBound_25 : decode cX6_setBound 25 = .ok (.istore_n 2, 1) := by decide +kernel
theorem dX6_setBound_26 : decode cX6_setBound 26 = .ok (.aload_n 0, 1) := by decide +kernel
theorem dX6_setBound_27 : decode cX6_setBound 27 = .ok (.iload_n 1, 1) := by decide +kernel
theorem dX6_setBound_28 : decode cX6_setBound 28 = .ok (.putfield 38, 3) := by decide +kernel
theorem dX6_setBound_31 : decode cX6_setBound 31 = .ok (.iload_n 2, 1) := by decide +kernel
theorem dX6_setBound_32 : decode cX6_setBound 32 = .ok (.ireturn, 1) := by decide +kernel
theorem dX6_letters_0 : decode cX6_letters 0 = .ok (.aload_n 0, 1) := by decide +kernel
theorem dX6_letters_1 : decode cX6_letters 1 = .ok (.iload_n 1, 1) := by decide +kernel
theorem dX6_letters_2 : decode cX6_letters 2 = .ok (.invokevirtual 219, 3) := by decide +kernel
theorem dX6_letters_5 : decode cX6_letters 5 = .ok (.getfield 228, 3) := by decide +kernel
theorem dX6_letters_8 : decode cX6_letters 8 = .ok (.invokevirtual 49, 3) := by decide +kernel
theorem dX6_letters_11 : decode cX6_letters 11 = .ok (.ireturn, 1) := by decide +kernel
theorem dX6_postedAt_0 : decode cX6_postedAt 0 = .ok (.aload_n 0, 1) := by decide +kernel
theorem dX6_postedAt_1 : decode cX6_postedAt 1 = .ok (.iload_n 1, 1) := by decide +kernel
theorem dX6_postedAt_2 : decode cX6_postedAt 2 = .ok (.invokevirtual 219, 3) := by decide +kernel
theorem dX6_postedAt_5 : decode cX6_postedAt 5 = .ok (.getfield 228, 3) := by decide +kernel
theorem dX6_postedAt_8 : decode cX6_postedAt 8 = .ok (.iload_n 2, 1) := by decide +kernel
theorem dX6_postedAt_9 : decode cX6_postedAt 9 = .ok (.invokestatic 231, 3) := by decide +kernel
theorem dX6_postedAt_12 : decode cX6_postedAt 12 = .ok (.ireturn, 1) := by decide +kernel
theorem dX6_onRoute_0 : decode cX6_onRoute 0 = .ok (.aload_n 0, 1) := by decide +kernel
theorem dX6_onRoute_1 : decode cX6_onRoute 1 = .ok (.iload_n 1, 1) := by decide +kernel
theorem dX6_onRoute_2 : decode cX6_onRoute 2 = .ok (.invokevirtual 219, 3) := by decide +kernel
theorem dX6_onRoute_5 : decode cX6_onRoute 5 = .ok (.astore_n 3, 1) := by decide +kernel
theorem dX6_onRoute_6 : decode cX6_onRoute 6 = .ok (.iload_n 2, 1) := by decide +kernel
theorem dX6_onRoute_7 : decode cX6_onRoute 7 = .ok (.ifCond .lt 9, 3) := by decide +kernel
theorem dX6_onRoute_10 : decode cX6_onRoute 10 = .ok (.iload_n 2, 1) := by decide +kernel
theorem dX6_onRoute_11 : decode cX6_onRoute 11 = .ok (.bipush 9, 2) := by decide +kernel
theorem dX6_onRoute_13 : decode cX6_onRoute 13 = .ok (.if_icmp .le 13, 3) := by decide +kernel
theorem dX6_onRoute_16 : decode cX6_onRoute 16 = .ok (.new 42, 3) := by decide +kernel
theorem dX6_onRoute_19 : decode cX6_onRoute 19 = .ok (.dup, 1) := by decide +kernel
theorem dX6_onRoute_20 : decode cX6_onRoute 20 = .ok (.ldc 235, 2) := by decide +kernel
theorem dX6_onRoute_22 : decode cX6_onRoute 22 = .ok (.invokespecial 46, 3) := by decide +kernel
theorem dX6_onRoute_25 : decode cX6_onRoute 25 = .ok (.athrow, 1) := by decide +kernel
theorem dX6_onRoute_26 : decode cX6_onRoute 26 = .ok (.aload_n 3, 1) := by decide +kernel
theorem dX6_onRoute_27 : decode cX6_onRoute 27 = .ok (.iload_n 2, 1) := by decide +kernel
theorem dX6_onRoute_28 : decode cX6_onRoute 28 = .ok (.invokevirtual 237, 3) := by decide +kernel
theorem dX6_onRoute_31 : decode cX6_onRoute 31 = .ok (.ireturn, 1) := by decide +kernel
theorem dX6_postage_0 : decode cX6_postage 0 = .ok (.aload_n 0, 1) := by decide +kernel
theorem dX6_postage_1 : decode cX6_postage 1 = .ok (.iload_n 1, 1) := by decide +kernel
theorem dX6_postage_2 : decode cX6_postage 2 = .ok (.iload_n 2, 1) := by decide +kernel
theorem dX6_postage_3 : decode cX6_postage 3 = .ok (.invokevirtual 198, 3) := by decide +kernel
theorem dX6_postage_6 : decode cX6_postage 6 = .ok (.astore_n 3, 1) := by decide +kernel
theorem dX6_postage_7 : decode cX6_postage 7 = .ok (.aload_n 3, 1) := by decide +kernel
theorem dX6_postage_8 : decode cX6_postage 8 = .ok (.invokevirtual 207, 3) := by decide +kernel
theorem dX6_postage_11 : decode cX6_postage 11 = .ok (.ifCond .ne 13, 3) := by decide +kernel
theorem dX6_postage_14 : decode cX6_postage 14 = .ok (.new 240, 3) := by decide +kernel
theorem dX6_postage_17 : decode cX6_postage 17 = .ok (.dup, 1) := by decide +kernel
theorem dX6_postage_18 : decode cX6_postage 18 = .ok (.ldc 242, 2) := by decide +kernel
theorem dX6_postage_20 : decode cX6_postage 20 = .ok (.invokespecial 244, 3) := by decide +kernel
theorem dX6_postage_23 : decode cX6_postage 23 = .ok (.athrow, 1) := by decide +kernel
theorem dX6_postage_24 : decode cX6_postage 24 = .ok (.aload_n 0, 1) := by decide +kernel
theorem dX6_postage_25 : decode cX6_postage 25 = .ok (.iload_n 1, 1) := by decide +kernel
theorem dX6_postage_26 : decode cX6_postage 26 = .ok (.invokevirtual 219, 3) := by decide +kernel
theorem dX6_postage_29 : decode cX6_postage 29 = .ok (.aload_n 3, 1) := by decide +kernel
theorem dX6_postage_30 : decode cX6_postage 30 = .ok (.invokevirtual 245, 3) := by decide +kernel
theorem dX6_postage_33 : decode cX6_postage 33 = .ok (.ireturn, 1) := by decide +kernel
theorem dX6_costOf_0 : decode cX6_costOf 0 = .ok (.aload_n 0, 1) := by decide +kernel
theorem dX6_costOf_1 : decode cX6_costOf 1 = .ok (.iload_n 1, 1) := by decide +kernel
theorem dX6_costOf_2 : decode cX6_costOf 2 = .ok (.invokevirtual 219, 3) := by decide +kernel
theorem dX6_costOf_5 : decode cX6_costOf 5 = .ok (.invokevirtual 249, 3) := by decide +kernel
theorem dX6_costOf_8 : decode cX6_costOf 8 = .ok (.lreturn, 1) := by decide +kernel
theorem dX6_proofAt_0 : decode cX6_proofAt 0 = .ok (.aload_n 0, 1) := by decide +kernel
theorem dX6_proofAt_1 : decode cX6_proofAt 1 = .ok (.iload_n 1, 1) := by decide +kernel
theorem dX6_proofAt_2 : decode cX6_proofAt 2 = .ok (.invokevirtual 219, 3) := by decide +kernel
theorem dX6_proofAt_5 : decode cX6_proofAt 5 = .ok (.getfield 253, 3) := by decide +kernel
theorem dX6_proofAt_8 : decode cX6_proofAt 8 = .ok (.iload_n 2, 1) := by decide +kernel
theorem dX6_proofAt_9 : decode cX6_proofAt 9 = .ok (.invokestatic 231, 3) := by decide +kernel
theorem dX6_proofAt_12 : decode cX6_proofAt 12 = .ok (.ireturn, 1) := by decide +kernel
theorem dX6_returnShare_0 : decode cX6_returnShare 0 = .ok (.aload_n 0, 1) := by decide +kernel
theorem dX6_returnShare_1 : decode cX6_returnShare 1 = .ok (.invokevirtual 256, 3) := by decide +kernel
theorem dX6_returnShare_4 : decode cX6_returnShare 4 = .ok (.istore_n 1, 1) := by decide +kernel
theorem dX6_returnShare_5 : decode cX6_returnShare 5 = .ok (.iload_n 1, 1) := by decide +kernel
theorem dX6_returnShare_6 : decode cX6_returnShare 6 = .ok (.ifCond .ne 14, 3) := by decide +kernel
theorem dX6_returnShare_9 : decode cX6_returnShare 9 = .ok (.new 259, 3) := by decide +kernel
theorem dX6_returnShare_12 : decode cX6_returnShare 12 = .ok (.dup, 1) := by decide +kernel
theorem dX6_returnShare_13 : decode cX6_returnShare 13 = .ok (.ldc_w 261, 3) := by decide +kernel
theorem dX6_returnShare_16 : decode cX6_returnShare 16 = .ok (.invokespecial 263, 3) := by decide +kernel
theorem dX6_returnShare_19 : decode cX6_returnShare 19 = .ok (.athrow, 1) := by decide +kernel
theorem dX6_returnShare_20 : decode cX6_returnShare 20 = .ok (.iconst 0, 1) := by decide +kernel
theorem dX6_returnShare_21 : decode cX6_returnShare 21 = .ok (.istore_n 2, 1) := by decide +kernel
theorem dX6_returnShare_22 : decode cX6_returnShare 22 = .ok (.iconst 0, 1) := by decide +kernel
theorem dX6_returnShare_23 : decode cX6_returnShare 23 = .ok (.istore_n 3, 1) := by decide +kernel
theorem dX6_returnShare_24 : decode cX6_returnShare 24 = .ok (.iload_n 3, 1) := by decide +kernel
theorem dX6_returnShare_25 : decode cX6_returnShare 25 = .ok (.aload_n 0, 1) := by decide +kernel
theorem dX6_returnShare_26 : decode cX6_returnShare 26 = .ok (.getfield 22, 3) := by decide +kernel
theorem dX6_returnShare_29 : decode cX6_returnShare 29 = .ok (.invokevirtual 49, 3) := by decide +kernel
theorem dX6_returnShare_32 : decode cX6_returnShare 32 = .ok (.if_icmp .ge 26, 3) := by decide +kernel
theorem dX6_returnShare_35 : decode cX6_returnShare 35 = .ok (.iload_n 2, 1) := by decide +kernel
theorem dX6_returnShare_36 : decode cX6_returnShare 36 = .ok (.aload_n 0, 1) := by decide +kernel
theorem dX6_returnShare_37 : decode cX6_returnShare 37 = .ok (.getfield 22, 3) := by decide +kernel
theorem dX6_returnShare_40 : decode cX6_returnShare 40 = .ok (.iload_n 3, 1) := by decide +kernel
theorem dX6_returnShare_41 : decode cX6_returnShare 41 = .ok (.invokevirtual 73, 3) := by decide +kernel
theorem dX6_returnShare_44 : decode cX6_returnShare 44 = .ok (.checkcast 168, 3) := by decide +kernel
theorem dX6_returnShare_47 : decode cX6_returnShare 47 = .ok (.invokevirtual 223, 3) := by decide +kernel
theorem dX6_returnShare_50 : decode cX6_returnShare 50 = .ok (.iadd, 1) := by decide +kernel
theorem dX6_returnShare_51 : decode cX6_returnShare 51 = .ok (.istore_n 2, 1) := by decide +kernel
theorem dX6_returnShare_52 : decode cX6_returnShare 52 = .ok (.iinc 3 1, 3) := by decide +kernel
theorem dX6_returnShare_55 : decode cX6_returnShare 55 = .ok (.goto (-31), 3) := by decide +kernel
theorem dX6_returnShare_58 : decode cX6_returnShare 58 = .ok (.iload_n 2, 1) := by decide +kernel
theorem dX6_returnShare_59 : decode cX6_returnShare 59 = .ok (.i2f, 1) := by decide +kernel
theorem dX6_returnShare_60 : decode cX6_returnShare 60 = .ok (.iload_n 1, 1) := by decide +kernel
theorem dX6_returnShare_61 : decode cX6_returnShare 61 = .ok (.i2f, 1) := by decide +kernel
theorem dX6_returnShare_62 : decode cX6_returnShare 62 = .ok (.fdiv, 1) := by decide +kernel
theorem dX6_returnShare_63 : decode cX6_returnShare 63 = .ok (.freturn, 1) := by decide +kernel
theorem dX6_meanPages_0 : decode cX6_meanPages 0 = .ok (.aload_n 0, 1) := by decide +kernel
theorem dX6_meanPages_1 : decode cX6_meanPages 1 = .ok (.invokevirtual 256, 3) := by decide +kernel
theorem dX6_meanPages_4 : decode cX6_meanPages 4 = .ok (.istore_n 1, 1) := by decide +kernel
theorem dX6_meanPages_5 : decode cX6_meanPages 5 = .ok (.iload_n 1, 1) := by decide +kernel
theorem dX6_meanPages_6 : decode cX6_meanPages 6 = .ok (.ifCond .ne 14, 3) := by decide +kernel
theorem dX6_meanPages_9 : decode cX6_meanPages 9 = .ok (.new 259, 3) := by decide +kernel
theorem dX6_meanPages_12 : decode cX6_meanPages 12 = .ok (.dup, 1) := by decide +kernel
theorem dX6_meanPages_13 : decode cX6_meanPages 13 = .ok (.ldc_w 261, 3) := by decide +kernel
theorem dX6_meanPages_16 : decode cX6_meanPages 16 = .ok (.invokespecial 263, 3) := by decide +kernel
theorem dX6_meanPages_19 : decode cX6_meanPages 19 = .ok (.athrow, 1) := by decide +kernel
theorem dX6_meanPages_20 : decode cX6_meanPages 20 = .ok (.iconst 0, 1) := by decide +kernel
theorem dX6_meanPages_21 : decode cX6_meanPages 21 = .ok (.istore_n 2, 1) := by decide +kernel
theorem dX6_meanPages_22 : decode cX6_meanPages 22 = .ok (.iconst 0, 1) := by decide +kernel
theorem dX6_meanPages_23 : decode cX6_meanPages 23 = .ok (.istore_n 3, 1) := by decide +kernel
theorem dX6_meanPages_24 : decode cX6_meanPages 24 = .ok (.iload_n 3, 1) := by decide +kernel
theorem dX6_meanPages_25 : decode cX6_meanPages 25 = .ok (.aload_n 0, 1) := by decide +kernel
theorem dX6_meanPages_26 : decode cX6_meanPages 26 = .ok (.getfield 22, 3) := by decide +kernel
theorem dX6_meanPages_29 : decode cX6_meanPages 29 = .ok (.invokevirtual 49, 3) := by decide +kernel
theorem dX6_meanPages_32 : decode cX6_meanPages 32 = .ok (.if_icmp .ge 26, 3) := by decide +kernel
theorem dX6_meanPages_35 : decode cX6_meanPages 35 = .ok (.iload_n 2, 1) := by decide +kernel
theorem dX6_meanPages_36 : decode cX6_meanPages 36 = .ok (.aload_n 0, 1) := by decide +kernel
theorem dX6_meanPages_37 : decode cX6_meanPages 37 = .ok (.getfield 22, 3) := by decide +kernel
theorem dX6_meanPages_40 : decode cX6_meanPages 40 = .ok (.iload_n 3, 1) := by decide +kernel
theorem dX6_meanPages_41 : decode cX6_meanPages 41 = .ok (.invokevirtual 73, 3) := by decide +kernel
theorem dX6_meanPages_44 : decode cX6_meanPages 44 = .ok (.checkcast 168, 3) := by decide +kernel
theorem dX6_meanPages_47 : decode cX6_meanPages 47 = .ok (.invokevirtual 264, 3) := by decide +kernel
theorem dX6_meanPages_50 : decode cX6_meanPages 50 = .ok (.iadd, 1) := by decide +kernel
theorem dX6_meanPages_51 : decode cX6_meanPages 51 = .ok (.istore_n 2, 1) := by decide +kernel
theorem dX6_meanPages_52 : decode cX6_meanPages 52 = .ok (.iinc 3 1, 3) := by decide +kernel
theorem dX6_meanPages_55 : decode cX6_meanPages 55 = .ok (.goto (-31), 3) := by decide +kernel
theorem dX6_meanPages_58 : decode cX6_meanPages 58 = .ok (.iload_n 2, 1) := by decide +kernel
theorem dX6_meanPages_59 : decode cX6_meanPages 59 = .ok (.i2d, 1) := by decide +kernel
theorem dX6_meanPages_60 : decode cX6_meanPages 60 = .ok (.iload_n 1, 1) := by decide +kernel
theorem dX6_meanPages_61 : decode cX6_meanPages 61 = .ok (.i2d, 1) := by decide +kernel
theorem dX6_meanPages_62 : decode cX6_meanPages 62 = .ok (.ddiv, 1) := by decide +kernel
theorem dX6_meanPages_63 : decode cX6_meanPages 63 = .ok (.dreturn, 1) := by decide +kernel
theorem dX6_isSound_0 : decode cX6_isSound 0 = .ok (.iconst 0, 1) := by decide +kernel
theorem dX6_isSound_1 : decode cX6_isSound 1 = .ok (.istore_n 1, 1) := by decide +kernel
theorem dX6_isSound_2 : decode cX6_isSound 2 = .ok (.iload_n 1, 1) := by decide +kernel
theorem dX6_isSound_3 : decode cX6_isSound 3 = .ok (.aload_n 0, 1) := by decide +kernel
theorem dX6_isSound_4 : decode cX6_isSound 4 = .ok (.getfield 19, 3) := by decide +kernel
theorem dX6_isSound_7 : decode cX6_isSound 7 = .ok (.invokevirtual 49, 3) := by decide +kernel
theorem dX6_isSound_10 : decode cX6_isSound 10 = .ok (.if_icmp .ge 41, 3) := by decide +kernel
theorem dX6_isSound_13 : decode cX6_isSound 13 = .ok (.aload_n 0, 1) := by decide +kernel
theorem dX6_isSound_14 : decode cX6_isSound 14 = .ok (.getfield 19, 3) := by decide +kernel
theorem dX6_isSound_17 : decode cX6_isSound 17 = .ok (.iload_n 1, 1) := by decide +kernel
theorem dX6_isSound_18 : decode cX6_isSound 18 = .ok (.invokevirtual 73, 3) := by decide +kernel
theorem dX6_isSound_21 : decode cX6_isSound 21 = .ok (.checkcast 123, 3) := by decide +kernel
theorem dX6_isSound_24 : decode cX6_isSound 24 = .ok (.astore_n 2, 1) := by decide +kernel
theorem dX6_isSound_25 : decode cX6_isSound 25 = .ok (.aload_n 0, 1) := by decide +kernel
theorem dX6_isSound_26 : decode cX6_isSound 26 = .ok (.aload_n 2, 1) := by decide +kernel
theorem dX6_isSound_27 : decode cX6_isSound 27 = .ok (.iconst 0, 1) := by decide +kernel
theorem dX6_isSound_28 : decode cX6_isSound 28 = .ok (.invokevirtual 267, 3) := by decide +kernel
theorem dX6_isSound_31 : decode cX6_isSound 31 = .ok (.ifCond .eq 12, 3) := by decide +kernel
theorem dX6_isSound_34 : decode cX6_isSound 34 = .ok (.aload_n 0, 1) := by decide +kernel
theorem dX6_isSound_35 : decode cX6_isSound 35 = .ok (.aload_n 2, 1) := by decide +kernel
theorem dX6_isSound_36 : decode cX6_isSound 36 = .ok (.iconst 1, 1) := by decide +kernel
theorem dX6_isSound_37 : decode cX6_isSound 37 = .ok (.invokevirtual 267, 3) := by decide +kernel
theorem dX6_isSound_40 : decode cX6_isSound 40 = .ok (.ifCond .ne 5, 3) := by decide +kernel
theorem dX6_isSound_43 : decode cX6_isSound 43 = .ok (.iconst 0, 1) := by decide +kernel
theorem dX6_isSound_44 : decode cX6_isSound 44 = .ok (.ireturn, 1) := by decide +kernel
theorem dX6_isSound_45 : decode cX6_isSound 45 = .ok (.iinc 1 1, 3) := by decide +kernel
theorem dX6_isSound_48 : decode cX6_isSound 48 = .ok (.goto (-46), 3) := by decide +kernel
theorem dX6_isSound_51 : decode cX6_isSound 51 = .ok (.aload_n 0, 1) := by decide +kernel
theorem dX6_isSound_52 : decode cX6_isSound 52 = .ok (.invokevirtual 271, 3) := by decide +kernel
theorem dX6_isSound_55 : decode cX6_isSound 55 = .ok (.ireturn, 1) := by decide +kernel
theorem dX6_addressAt_0 : decode cX6_addressAt 0 = .ok (.iload_n 1, 1) := by decide +kernel
theorem dX6_addressAt_1 : decode cX6_addressAt 1 = .ok (.ifCond .lt 14, 3) := by decide +kernel
theorem dX6_addressAt_4 : decode cX6_addressAt 4 = .ok (.iload_n 1, 1) := by decide +kernel
theorem dX6_addressAt_5 : decode cX6_addressAt 5 = .ok (.aload_n 0, 1) := by decide +kernel
theorem dX6_addressAt_6 : decode cX6_addressAt 6 = .ok (.getfield 10, 3) := by decide +kernel
theorem dX6_addressAt_9 : decode cX6_addressAt 9 = .ok (.invokevirtual 49, 3) := by decide +kernel
theorem dX6_addressAt_12 : decode cX6_addressAt 12 = .ok (.if_icmp .lt 14, 3) := by decide +kernel
theorem dX6_addressAt_15 : decode cX6_addressAt 15 = .ok (.new 274, 3) := by decide +kernel
theorem dX6_addressAt_18 : decode cX6_addressAt 18 = .ok (.dup, 1) := by decide +kernel
theorem dX6_addressAt_19 : decode cX6_addressAt 19 = .ok (.ldc_w 276, 3) := by decide +kernel
theorem dX6_addressAt_22 : decode cX6_addressAt 22 = .ok (.invokespecial 278, 3) := by decide +kernel
theorem dX6_addressAt_25 : decode cX6_addressAt 25 = .ok (.athrow, 1) := by decide +kernel
theorem dX6_addressAt_26 : decode cX6_addressAt 26 = .ok (.aload_n 0, 1) := by decide +kernel
theorem dX6_addressAt_27 : decode cX6_addressAt 27 = .ok (.getfield 10, 3) := by decide +kernel
theorem dX6_addressAt_30 : decode cX6_addressAt 30 = .ok (.iload_n 1, 1) := by decide +kernel
theorem dX6_addressAt_31 : decode cX6_addressAt 31 = .ok (.invokevirtual 73, 3) := by decide +kernel
theorem dX6_addressAt_34 : decode cX6_addressAt 34 = .ok (.checkcast 58, 3) := by decide +kernel
theorem dX6_addressAt_37 : decode cX6_addressAt 37 = .ok (.astore_n 2, 1) := by decide +kernel
theorem dX6_addressAt_38 : decode cX6_addressAt 38 = .ok (.aload_n 2, 1) := by decide +kernel
theorem dX6_addressAt_39 : decode cX6_addressAt 39 = .ok (.getfield 86, 3) := by decide +kernel
theorem dX6_addressAt_42 : decode cX6_addressAt 42 = .ok (.ifCond .eq 14, 3) := by decide +kernel
theorem dX6_addressAt_45 : decode cX6_addressAt 45 = .ok (.new 274, 3) := by decide +kernel
theorem dX6_addressAt_48 : decode cX6_addressAt 48 = .ok (.dup, 1) := by decide +kernel
theorem dX6_addressAt_49 : decode cX6_addressAt 49 = .ok (.ldc_w 279, 3) := by decide +kernel
theorem dX6_addressAt_52 : decode cX6_addressAt 52 = .ok (.invokespecial 278, 3) := by decide +kernel
theorem dX6_addressAt_55 : decode cX6_addressAt 55 = .ok (.athrow, 1) := by decide +kernel
theorem dX6_addressAt_56 : decode cX6_addressAt 56 = .ok (.aload_n 2, 1) := by decide +kernel
theorem dX6_addressAt_57 : decode cX6_addressAt 57 = .ok (.areturn, 1) := by decide +kernel
theorem dX6_personAt_0 : decode cX6_personAt 0 = .ok (.iload_n 1, 1) := by decide +kernel
theorem dX6_personAt_1 : decode cX6_personAt 1 = .ok (.ifCond .lt 14, 3) := by decide +kernel
theorem dX6_personAt_4 : decode cX6_personAt 4 = .ok (.iload_n 1, 1) := by decide +kernel
theorem dX6_personAt_5 : decode cX6_personAt 5 = .ok (.aload_n 0, 1) := by decide +kernel
theorem dX6_personAt_6 : decode cX6_personAt 6 = .ok (.getfield 16, 3) := by decide +kernel
theorem dX6_personAt_9 : decode cX6_personAt 9 = .ok (.invokevirtual 49, 3) := by decide +kernel
theorem dX6_personAt_12 : decode cX6_personAt 12 = .ok (.if_icmp .lt 14, 3) := by decide +kernel
theorem dX6_personAt_15 : decode cX6_personAt 15 = .ok (.new 274, 3) := by decide +kernel
theorem dX6_personAt_18 : decode cX6_personAt 18 = .ok (.dup, 1) := by decide +kernel
theorem dX6_personAt_19 : decode cX6_personAt 19 = .ok (.ldc_w 281, 3) := by decide +kernel
theorem dX6_personAt_22 : decode cX6_personAt 22 = .ok (.invokespecial 278, 3) := by decide +kernel
theorem dX6_personAt_25 : decode cX6_personAt 25 = .ok (.athrow, 1) := by decide +kernel
theorem dX6_personAt_26 : decode cX6_personAt 26 = .ok (.aload_n 0, 1) := by decide +kernel
theorem dX6_personAt_27 : decode cX6_personAt 27 = .ok (.getfield 16, 3) := by decide +kernel
theorem dX6_personAt_30 : decode cX6_personAt 30 = .ok (.iload_n 1, 1) := by decide +kernel
theorem dX6_personAt_31 : decode cX6_personAt 31 = .ok (.invokevirtual 73, 3) := by decide +kernel
theorem dX6_personAt_34 : decode cX6_personAt 34 = .ok (.checkcast 77, 3) := by decide +kernel
theorem dX6_personAt_37 : decode cX6_personAt 37 = .ok (.areturn, 1) := by decide +kernel
theorem dX6_templateAt_0 : decode cX6_templateAt 0 = .ok (.iload_n 1, 1) := by decide +kernel
theorem dX6_templateAt_1 : decode cX6_templateAt 1 = .ok (.ifCond .lt 14, 3) := by decide +kernel
theorem dX6_templateAt_4 : decode cX6_templateAt 4 = .ok (.iload_n 1, 1) := by decide +kernel
theorem dX6_templateAt_5 : decode cX6_templateAt 5 = .ok (.aload_n 0, 1) := by decide +kernel
theorem dX6_templateAt_6 : decode cX6_templateAt 6 = .ok (.getfield 19, 3) := by decide +kernel
theorem dX6_templateAt_9 : decode cX6_templateAt 9 = .ok (.invokevirtual 49, 3) := by decide +kernel
theorem dX6_templateAt_12 : decode cX6_templateAt 12 = .ok (.if_icmp .lt 14, 3) := by decide +kernel
theorem dX6_templateAt_15 : decode cX6_templateAt 15 = .ok (.new 274, 3) := by decide +kernel
theorem dX6_templateAt_18 : decode cX6_templateAt 18 = .ok (.dup, 1) := by decide +kernel
theorem dX6_templateAt_19 : decode cX6_templateAt 19 = .ok (.ldc_w 283, 3) := by decide +kernel
theorem dX6_templateAt_22 : decode cX6_templateAt 22 = .ok (.invokespecial 278, 3) := by decide +kernel
theorem dX6_templateAt_25 : decode cX6_templateAt 25 = .ok (.athrow, 1) := by decide +kernel
theorem dX6_templateAt_26 : decode cX6_templateAt 26 = .ok (.aload_n 0, 1) := by decide +kernel
theorem dX6_templateAt_27 : decode cX6_templateAt 27 = .ok (.getfield 19, 3) := by decide +kernel
theorem dX6_templateAt_30 : decode cX6_templateAt 30 = .ok (.iload_n 1, 1) := by decide +kernel
theorem dX6_templateAt_31 : decode cX6_templateAt 31 = .ok (.invokevirtual 73, 3) := by decide +kernel
theorem dX6_templateAt_34 : decode cX6_templateAt 34 = .ok (.checkcast 123, 3) := by decide +kernel
theorem dX6_templateAt_37 : decode cX6_templateAt 37 = .ok (.areturn, 1) := by decide +kernel
theorem dX6_runAt_0 : decode cX6_runAt 0 = .ok (.iload_n 1, 1) := by decide +kernel
theorem dX6_runAt_1 : decode cX6_runAt 1 = .ok (.ifCond .lt 14, 3) := by decide +kernel
theorem dX6_runAt_4 : decode cX6_runAt 4 = .ok (.iload_n 1, 1) := by decide +kernel
theorem dX6_runAt_5 : decode cX6_runAt 5 = .ok (.aload_n 0, 1) := by decide +kernel
theorem dX6_runAt_6 : decode cX6_runAt 6 = .ok (.getfield 22, 3) := by decide +kernel
theorem dX6_runAt_9 : decode cX6_runAt 9 = .ok (.invokevirtual 49, 3) := by decide +kernel
theorem dX6_runAt_12 : decode cX6_runAt 12 = .ok (.if_icmp .lt 14, 3) := by decide +kernel
theorem dX6_runAt_15 : decode cX6_runAt 15 = .ok (.new 274, 3) := by decide +kernel
theorem dX6_runAt_18 : decode cX6_runAt 18 = .ok (.dup, 1) := by decide +kernel
theorem dX6_runAt_19 : decode cX6_runAt 19 = .ok (.ldc_w 285, 3) := by decide +kernel
theorem dX6_runAt_22 : decode cX6_runAt 22 = .ok (.invokespecial 278, 3) := by decide +kernel
theorem dX6_runAt_25 : decode cX6_runAt 25 = .ok (.athrow, 1) := by decide +kernel
theorem dX6_runAt_26 : decode cX6_runAt 26 = .ok (.aload_n 0, 1) := by decide +kernel
theorem dX6_runAt_27 : decode cX6_runAt 27 = .ok (.getfield 22, 3) := by decide +kernel
theorem dX6_runAt_30 : decode cX6_runAt 30 = .ok (.iload_n 1, 1) := by decide +kernel
theorem dX6_runAt_31 : decode cX6_runAt 31 = .ok (.invokevirtual 73, 3) := by decide +kernel
theorem dX6_runAt_34 : decode cX6_runAt 34 = .ok (.checkcast 168, 3) := by decide +kernel
theorem dX6_runAt_37 : decode cX6_runAt 37 = .ok (.areturn, 1) := by decide +kernel
theorem dX6_entryAt_0 : decode cX6_entryAt 0 = .ok (.aload_n 0, 1) := by decide +kernel
theorem dX6_entryAt_1 : decode cX6_entryAt 1 = .ok (.iload_n 1, 1) := by decide +kernel
theorem dX6_entryAt_2 : decode cX6_entryAt 2 = .ok (.invokevirtual 219, 3) := by decide +kernel
theorem dX6_entryAt_5 : decode cX6_entryAt 5 = .ok (.getfield 287, 3) := by decide +kernel
theorem dX6_entryAt_8 : decode cX6_entryAt 8 = .ok (.astore_n 3, 1) := by decide +kernel
theorem dX6_entryAt_9 : decode cX6_entryAt 9 = .ok (.iload_n 2, 1) := by decide +kernel
theorem dX6_entryAt_10 : decode cX6_entryAt 10 = .ok (.ifCond .lt 11, 3) := by decide +kernel
theorem dX6_entryAt_13 : decode cX6_entryAt 13 = .ok (.iload_n 2, 1) := by decide +kernel
theorem dX6_entryAt_14 : decode cX6_entryAt 14 = .ok (.aload_n 3, 1) := by decide +kernel
theorem dX6_entryAt_15 : decode cX6_entryAt 15 = .ok (.invokevirtual 49, 3) := by decide +kernel
theorem dX6_entryAt_18 : decode cX6_entryAt 18 = .ok (.if_icmp .lt 14, 3) := by decide +kernel
theorem dX6_entryAt_21 : decode cX6_entryAt 21 = .ok (.new 274, 3) := by decide +kernel
theorem dX6_entryAt_24 : decode cX6_entryAt 24 = .ok (.dup, 1) := by decide +kernel
theorem dX6_entryAt_25 : decode cX6_entryAt 25 = .ok (.ldc_w 290, 3) := by decide +kernel
theorem dX6_entryAt_28 : decode cX6_entryAt 28 = .ok (.invokespecial 278, 3) := by decide +kernel
theorem dX6_entryAt_31 : decode cX6_entryAt 31 = .ok (.athrow, 1) := by decide +kernel
theorem dX6_entryAt_32 : decode cX6_entryAt 32 = .ok (.aload_n 3, 1) := by decide +kernel
theorem dX6_entryAt_33 : decode cX6_entryAt 33 = .ok (.iload_n 2, 1) := by decide +kernel
theorem dX6_entryAt_34 : decode cX6_entryAt 34 = .ok (.invokevirtual 73, 3) := by decide +kernel
theorem dX6_entryAt_37 : decode cX6_entryAt 37 = .ok (.checkcast 172, 3) := by decide +kernel
theorem dX6_entryAt_40 : decode cX6_entryAt 40 = .ok (.areturn, 1) := by decide +kernel
theorem dX6_numberAt_0 : decode cX6_numberAt 0 = .ok (.iload_n 1, 1) := by decide +kernel
theorem dX6_numberAt_1 : decode cX6_numberAt 1 = .ok (.ifCond .lt 11, 3) := by decide +kernel
theorem dX6_numberAt_4 : decode cX6_numberAt 4 = .ok (.iload_n 1, 1) := by decide +kernel
theorem dX6_numberAt_5 : decode cX6_numberAt 5 = .ok (.aload_n 0, 1) := by decide +kernel
theorem dX6_numberAt_6 : decode cX6_numberAt 6 = .ok (.invokevirtual 49, 3) := by decide +kernel
theorem dX6_numberAt_9 : decode cX6_numberAt 9 = .ok (.if_icmp .lt 14, 3) := by decide +kernel
theorem dX6_numberAt_12 : decode cX6_numberAt 12 = .ok (.new 240, 3) := by decide +kernel
theorem dX6_numberAt_15 : decode cX6_numberAt 15 = .ok (.dup, 1) := by decide +kernel
theorem dX6_numberAt_16 : decode cX6_numberAt 16 = .ok (.ldc_w 292, 3) := by decide +kernel
theorem dX6_numberAt_19 : decode cX6_numberAt 19 = .ok (.invokespecial 244, 3) := by decide +kernel
theorem dX6_numberAt_22 : decode cX6_numberAt 22 = .ok (.athrow, 1) := by decide +kernel
theorem dX6_numberAt_23 : decode cX6_numberAt 23 = .ok (.aload_n 0, 1) := by decide +kernel
theorem dX6_numberAt_24 : decode cX6_numberAt 24 = .ok (.iload_n 1, 1) := by decide +kernel
theorem dX6_numberAt_25 : decode cX6_numberAt 25 = .ok (.invokevirtual 73, 3) := by decide +kernel
theorem dX6_numberAt_28 : decode cX6_numberAt 28 = .ok (.checkcast 172, 3) := by decide +kernel
theorem dX6_numberAt_31 : decode cX6_numberAt 31 = .ok (.getfield 294, 3) := by decide +kernel
theorem dX6_numberAt_34 : decode cX6_numberAt 34 = .ok (.ireturn, 1) := by decide +kernel
theorem dX6_checkFlags_0 : decode cX6_checkFlags 0 = .ok (.iload_n 0, 1) := by decide +kernel
theorem dX6_checkFlags_1 : decode cX6_checkFlags 1 = .ok (.ifCond .lt 9, 3) := by decide +kernel
theorem dX6_checkFlags_4 : decode cX6_checkFlags 4 = .ok (.iload_n 0, 1) := by decide +kernel
theorem dX6_checkFlags_5 : decode cX6_checkFlags 5 = .ok (.bipush 7, 2) := by decide +kernel
theorem dX6_checkFlags_7 : decode cX6_checkFlags 7 = .ok (.if_icmp .le 14, 3) := by decide +kernel
theorem dX6_checkFlags_10 : decode cX6_checkFlags 10 = .ok (.new 42, 3) := by decide +kernel
theorem dX6_checkFlags_13 : decode cX6_checkFlags 13 = .ok (.dup, 1) := by decide +kernel
theorem dX6_checkFlags_14 : decode cX6_checkFlags 14 = .ok (.ldc_w 295, 3) := by decide +kernel
theorem dX6_checkFlags_17 : decode cX6_checkFlags 17 = .ok (.invokespecial 46, 3) := by decide +kernel
theorem dX6_checkFlags_20 : decode cX6_checkFlags 20 = .ok (.athrow, 1) := by decide +kernel
theorem dX6_checkFlags_21 : decode cX6_checkFlags 21 = .ok (.return_, 1) := by decide +kernel
theorem dX6_checkBuying_0 : decode cX6_checkBuying 0 = .ok (.iload_n 1, 1) := by decide +kernel
theorem dX6_checkBuying_1 : decode cX6_checkBuying 1 = .ok (.iconst 1, 1) := by decide +kernel
theorem dX6_checkBuying_2 : decode cX6_checkBuying 2 = .ok (.if_icmp .lt 10, 3) := by decide +kernel
theorem dX6_checkBuying_5 : decode cX6_checkBuying 5 = .ok (.iload_n 1, 1) := by decide +kernel
theorem dX6_checkBuying_6 : decode cX6_checkBuying 6 = .ok (.sipush 500, 3) := by decide +kernel
theorem dX6_checkBuying_9 : decode cX6_checkBuying 9 = .ok (.if_icmp .le 14, 3) := by decide +kernel
theorem dX6_checkBuying_12 : decode cX6_checkBuying 12 = .ok (.new 42, 3) := by decide +kernel
theorem dX6_checkBuying_15 : decode cX6_checkBuying 15 = .ok (.dup, 1) := by decide +kernel
theorem dX6_checkBuying_16 : decode cX6_checkBuying 16 = .ok (.ldc_w 297, 3) := by decide +kernel
theorem dX6_checkBuying_19 : decode cX6_checkBuying 19 = .ok (.invokespecial 46, 3) := by decide +kernel
theorem dX6_checkBuying_22 : decode cX6_checkBuying 22 = .ok (.athrow, 1) := by decide +kernel
theorem dX6_checkBuying_23 : decode cX6_checkBuying 23 = .ok (.iload_n 0, 1) := by decide +kernel
theorem dX6_checkBuying_24 : decode cX6_checkBuying 24 = .ok (.iload_n 1, 1) := by decide +kernel
theorem dX6_checkBuying_25 : decode cX6_checkBuying 25 = .ok (.iadd, 1) := by decide +kernel
theorem dX6_checkBuying_26 : decode cX6_checkBuying 26 = .ok (.sipush 5000, 3) := by decide +kernel
theorem dX6_checkBuying_29 : decode cX6_checkBuying 29 = .ok (.if_icmp .le 14, 3) := by decide +kernel
theorem dX6_checkBuying_32 : decode cX6_checkBuying 32 = .ok (.new 53, 3) := by decide +kernel
theorem dX6_checkBuying_35 : decode cX6_checkBuying 35 = .ok (.dup, 1) := by decide +kernel
theorem dX6_checkBuying_36 : decode cX6_checkBuying 36 = .ok (.ldc_w 299, 3) := by decide +kernel
theorem dX6_checkBuying_39 : decode cX6_checkBuying 39 = .ok (.invokespecial 57, 3) := by decide +kernel
theorem dX6_checkBuying_42 : decode cX6_checkBuying 42 = .ok (.athrow, 1) := by decide +kernel
theorem dX6_checkBuying_43 : decode cX6_checkBuying 43 = .ok (.return_, 1) := by decide +kernel
theorem dX6_goThroughPeople_0 : decode cX6_goThroughPeople 0 = .ok (.aload_n 0, 1) := by decide +kernel
theorem dX6_goThroughPeople_1 : decode cX6_goThroughPeople 1 = .ok (.invokevirtual 301, 3) := by decide +kernel
theorem dX6_goThroughPeople_4 : decode cX6_goThroughPeople 4 = .ok (.iconst 0, 1) := by decide +kernel
theorem dX6_goThroughPeople_5 : decode cX6_goThroughPeople 5 = .ok (.istore_n 3, 1) := by decide +kernel
theorem dX6_goThroughPeople_6 : decode cX6_goThroughPeople 6 = .ok (.iload_n 3, 1) := by decide +kernel
theorem dX6_goThroughPeople_7 : decode cX6_goThroughPeople 7 = .ok (.aload_n 0, 1) := by decide +kernel
theorem dX6_goThroughPeople_8 : decode cX6_goThroughPeople 8 = .ok (.getfield 16, 3) := by decide +kernel
theorem dX6_goThroughPeople_11 : decode cX6_goThroughPeople 11 = .ok (.invokevirtual 49, 3) := by decide +kernel
theorem dX6_goThroughPeople_14 : decode cX6_goThroughPeople 14 = .ok (.if_icmp .ge 35, 3) := by decide +kernel
theorem dX6_goThroughPeople_17 : decode cX6_goThroughPeople 17 = .ok (.aload_n 0, 1) := by decide +kernel
theorem dX6_goThroughPeople_18 : decode cX6_goThroughPeople 18 = .ok (.getfield 16, 3) := by decide +kernel
theorem dX6_goThroughPeople_21 : decode cX6_goThroughPeople 21 = .ok (.iload_n 3, 1) := by decide +kernel
theorem dX6_goThroughPeople_22 : decode cX6_goThroughPeople 22 = .ok (.invokevirtual 73, 3) := by decide +kernel
theorem dX6_goThroughPeople_25 : decode cX6_goThroughPeople 25 = .ok (.checkcast 77, 3) := by decide +kernel
theorem dX6_goThroughPeople_28 : decode cX6_goThroughPeople 28 = .ok (.astore 4, 2) := by decide +kernel
theorem dX6_goThroughPeople_30 : decode cX6_goThroughPeople 30 = .ok (.aload 4, 2) := by decide +kernel
theorem dX6_goThroughPeople_32 : decode cX6_goThroughPeople 32 = .ok (.aload_n 0, 1) := by decide +kernel
theorem dX6_goThroughPeople_33 : decode cX6_goThroughPeople 33 = .ok (.aload 4, 2) := by decide +kernel
theorem dX6_goThroughPeople_35 : decode cX6_goThroughPeople 35 = .ok (.aload_n 1, 1) := by decide +kernel
theorem dX6_goThroughPeople_36 : decode cX6_goThroughPeople 36 = .ok (.iload_n 2, 1) := by decide +kernel
theorem dX6_goThroughPeople_37 : decode cX6_goThroughPeople 37 = .ok (.invokevirtual 304, 3) := by decide +kernel
theorem dX6_goThroughPeople_40 : decode cX6_goThroughPeople 40 = .ok (.putfield 191, 3) := by decide +kernel
theorem dX6_goThroughPeople_43 : decode cX6_goThroughPeople 43 = .ok (.iinc 3 1, 3) := by decide +kernel
theorem dX6_goThroughPeople_46 : decode cX6_goThroughPeople 46 = .ok (.goto (-40), 3) := by decide +kernel
theorem dX6_goThroughPeople_49 : decode cX6_goThroughPeople 49 = .ok (.return_, 1) := by decide +kernel
theorem dX6_beginDrafts_0 : decode cX6_beginDrafts 0 = .ok (.iconst 0, 1) := by decide +kernel
theorem dX6_beginDrafts_1 : decode cX6_beginDrafts 1 = .ok (.istore_n 1, 1) := by decide +kernel
theorem dX6_beginDrafts_2 : decode cX6_beginDrafts 2 = .ok (.iload_n 1, 1) := by decide +kernel
theorem dX6_beginDrafts_3 : decode cX6_beginDrafts 3 = .ok (.aload_n 0, 1) := by decide +kernel
theorem dX6_beginDrafts_4 : decode cX6_beginDrafts 4 = .ok (.getfield 10, 3) := by decide +kernel
theorem dX6_beginDrafts_7 : decode cX6_beginDrafts 7 = .ok (.invokevirtual 49, 3) := by decide +kernel
theorem dX6_beginDrafts_10 : decode cX6_beginDrafts 10 = .ok (.if_icmp .ge 23, 3) := by decide +kernel
theorem dX6_beginDrafts_13 : decode cX6_beginDrafts 13 = .ok (.aload_n 0, 1) := by decide +kernel
theorem dX6_beginDrafts_14 : decode cX6_beginDrafts 14 = .ok (.getfield 10, 3) := by decide +kernel
theorem dX6_beginDrafts_17 : decode cX6_beginDrafts 17 = .ok (.iload_n 1, 1) := by decide +kernel
theorem dX6_beginDrafts_18 : decode cX6_beginDrafts 18 = .ok (.invokevirtual 73, 3) := by decide +kernel
theorem dX6_beginDrafts_21 : decode cX6_beginDrafts 21 = .ok (.checkcast 58, 3) := by decide +kernel
theorem dX6_beginDrafts_24 : decode cX6_beginDrafts 24 = .ok (.invokevirtual 308, 3) := by decide +kernel
theorem dX6_beginDrafts_27 : decode cX6_beginDrafts 27 = .ok (.iinc 1 1, 3) := by decide +kernel
theorem dX6_beginDrafts_30 : decode cX6_beginDrafts 30 = .ok (.goto (-28), 3) := by decide +kernel
theorem dX6_beginDrafts_33 : decode cX6_beginDrafts 33 = .ok (.aload_n 0, 1) := by decide +kernel
theorem dX6_beginDrafts_34 : decode cX6_beginDrafts 34 = .ok (.getfield 22, 3) := by decide +kernel
theorem dX6_beginDrafts_37 : decode cX6_beginDrafts 37 = .ok (.invokevirtual 311, 3) := by decide +kernel
theorem dX6_beginDrafts_40 : decode cX6_beginDrafts 40 = .ok (.ifCond .ne 69, 3) := by decide +kernel
theorem dX6_beginDrafts_43 : decode cX6_beginDrafts 43 = .ok (.aload_n 0, 1) := by decide +kernel
theorem dX6_beginDrafts_44 : decode cX6_beginDrafts 44 = .ok (.getfield 22, 3) := by decide +kernel
theorem dX6_beginDrafts_47 : decode cX6_beginDrafts 47 = .ok (.aload_n 0, 1) := by decide +kernel
theorem dX6_beginDrafts_48 : decode cX6_beginDrafts 48 = .ok (.getfield 22, 3) := by decide +kernel
theorem dX6_beginDrafts_51 : decode cX6_beginDrafts 51 = .ok (.invokevirtual 49, 3) := by decide +kernel
theorem dX6_beginDrafts_54 : decode cX6_beginDrafts 54 = .ok (.iconst 1, 1) := by decide +kernel
theorem dX6_beginDrafts_55 : decode cX6_beginDrafts 55 = .ok (.isub, 1) := by decide +kernel
theorem dX6_beginDrafts_56 : decode cX6_beginDrafts 56 = .ok (.invokevirtual 73, 3) := by decide +kernel
theorem dX6_beginDrafts_59 : decode cX6_beginDrafts 59 = .ok (.checkcast 168, 3) := by decide +kernel
theorem dX6_beginDrafts_62 : decode cX6_beginDrafts 62 = .ok (.getfield 228, 3) := by decide +kernel
theorem dX6_beginDrafts_65 : decode cX6_beginDrafts 65 = .ok (.astore_n 1, 1) := by decide +kernel
theorem dX6_beginDrafts_66 : decode cX6_beginDrafts 66 = .ok (.iconst 0, 1) := by decide +kernel
theorem dX6_beginDrafts_67 : decode cX6_beginDrafts 67 = .ok (.istore_n 2, 1) := by decide +kernel
theorem dX6_beginDrafts_68 : decode cX6_beginDrafts 68 = .ok (.iload_n 2, 1) := by decide +kernel
theorem dX6_beginDrafts_69 : decode cX6_beginDrafts 69 = .ok (.aload_n 1, 1) := by decide +kernel
theorem dX6_beginDrafts_70 : decode cX6_beginDrafts 70 = .ok (.invokevirtual 49, 3) := by decide +kernel
theorem dX6_beginDrafts_73 : decode cX6_beginDrafts 73 = .ok (.if_icmp .ge 36, 3) := by decide +kernel
theorem dX6_beginDrafts_76 : decode cX6_beginDrafts 76 = .ok (.aload_n 1, 1) := by decide +kernel
theorem dX6_beginDrafts_77 : decode cX6_beginDrafts 77 = .ok (.iload_n 2, 1) := by decide +kernel
theorem dX6_beginDrafts_78 : decode cX6_beginDrafts 78 = .ok (.invokevirtual 73, 3) := by decide +kernel
theorem dX6_beginDrafts_81 : decode cX6_beginDrafts 81 = .ok (.checkcast 172, 3) := by decide +kernel
theorem dX6_beginDrafts_84 : decode cX6_beginDrafts 84 = .ok (.astore_n 3, 1) := by decide +kernel
theorem dX6_beginDrafts_85 : decode cX6_beginDrafts 85 = .ok (.aload_n 3, 1) := by decide +kernel
theorem dX6_beginDrafts_86 : decode cX6_beginDrafts 86 = .ok (.getfield 210, 3) := by decide +kernel
theorem dX6_beginDrafts_89 : decode cX6_beginDrafts 89 = .ok (.ifCond .ne 14, 3) := by decide +kernel
theorem dX6_beginDrafts_92 : decode cX6_beginDrafts 92 = .ok (.aload_n 3, 1) := by decide +kernel
theorem dX6_beginDrafts_93 : decode cX6_beginDrafts 93 = .ok (.getfield 215, 3) := by decide +kernel
theorem dX6_beginDrafts_96 : decode cX6_beginDrafts 96 = .ok (.getfield 79, 3) := by decide +kernel
theorem dX6_beginDrafts_99 : decode cX6_beginDrafts 99 = .ok (.iconst 0, 1) := by decide +kernel
theorem dX6_beginDrafts_100 : decode cX6_beginDrafts 100 = .ok (.putfield 314, 3) := by decide +kernel
theorem dX6_beginDrafts_103 : decode cX6_beginDrafts 103 = .ok (.iinc 2 1, 3) := by decide +kernel
theorem dX6_beginDrafts_106 : decode cX6_beginDrafts 106 = .ok (.goto (-38), 3) := by decide +kernel
theorem dX6_beginDrafts_109 : decode cX6_beginDrafts 109 = .ok (.aload_n 0, 1) := by decide +kernel
theorem dX6_beginDrafts_110 : decode cX6_beginDrafts 110 = .ok (.getfield 35, 3) := by decide +kernel
theorem dX6_beginDrafts_113 : decode cX6_beginDrafts 113 = .ok (.aload_n 0, 1) := by decide +kernel
theorem dX6_beginDrafts_114 : decode cX6_beginDrafts 114 = .ok (.getfield 28, 3) := by decide +kernel
theorem dX6_beginDrafts_117 : decode cX6_beginDrafts 117 = .ok (.invokevirtual 187, 3) := by decide +kernel
theorem dX6_beginDrafts_120 : decode cX6_beginDrafts 120 = .ok (.return_, 1) := by decide +kernel
theorem dX6_nextOutcome_0 : decode cX6_nextOutcome 0 = .ok (.aload_n 1, 1) := by decide +kernel
theorem dX6_nextOutcome_1 : decode cX6_nextOutcome 1 = .ok (.invokevirtual 115, 3) := by decide +kernel
theorem dX6_nextOutcome_4 : decode cX6_nextOutcome 4 = .ok (.ifCond .eq 6, 3) := by decide +kernel
theorem dX6_nextOutcome_7 : decode cX6_nextOutcome 7 = .ok (.bipush 115, 2) := by decide +kernel
theorem dX6_nextOutcome_9 : decode cX6_nextOutcome 9 = .ok (.ireturn, 1) := by decide +kernel
theorem dX6_nextOutcome_10 : decode cX6_nextOutcome 10 = .ok (.aload_n 1, 1) := by decide +kernel
theorem dX6_nextOutcome_11 : decode cX6_nextOutcome 11 = .ok (.getfield 79, 3) := by decide +kernel
theorem dX6_nextOutcome_14 : decode cX6_nextOutcome 14 = .ok (.astore 4, 2) := by decide +kernel
theorem dX6_nextOutcome_16 : decode cX6_nextOutcome 16 = .ok (.aload 4, 2) := by decide +kernel
theorem dX6_nextOutcome_18 : decode cX6_nextOutcome 18 = .ok (.getfield 314, 3) := by decide +kernel
theorem dX6_nextOutcome_21 : decode cX6_nextOutcome 21 = .ok (.iconst 2, 1) := by decide +kernel
theorem dX6_nextOutcome_22 : decode cX6_nextOutcome 22 = .ok (.if_icmp .lt 6, 3) := by decide +kernel
theorem dX6_nextOutcome_25 : decode cX6_nextOutcome 25 = .ok (.bipush 98, 2) := by decide +kernel
theorem dX6_nextOutcome_27 : decode cX6_nextOutcome 27 = .ok (.ireturn, 1) := by decide +kernel
theorem dX6_nextOutcome_28 : decode cX6_nextOutcome 28 = .ok (.aload_n 2, 1) := by decide +kernel
theorem dX6_nextOutcome_29 : decode cX6_nextOutcome 29 = .ok (.aload_n 1, 1) := by decide +kernel
theorem dX6_nextOutcome_30 : decode cX6_nextOutcome 30 = .ok (.getfield 103, 3) := by decide +kernel
theorem dX6_nextOutcome_33 : decode cX6_nextOutcome 33 = .ok (.invokevirtual 144, 3) := by decide +kernel
theorem dX6_nextOutcome_36 : decode cX6_nextOutcome 36 = .ok (.istore 5, 2) := by decide +kernel
theorem dX6_nextOutcome_38 : decode cX6_nextOutcome 38 = .ok (.iload 5, 2) := by decide +kernel
theorem dX6_nextOutcome_40 : decode cX6_nextOutcome 40 = .ok (.ifCond .ne 6, 3) := by decide +kernel
theorem dX6_nextOutcome_43 : decode cX6_nextOutcome 43 = .ok (.bipush 101, 2) := by decide +kernel
theorem dX6_nextOutcome_45 : decode cX6_nextOutcome 45 = .ok (.ireturn, 1) := by decide +kernel
theorem dX6_nextOutcome_46 : decode cX6_nextOutcome 46 = .ok (.iload_n 3, 1) := by decide +kernel
theorem dX6_nextOutcome_47 : decode cX6_nextOutcome 47 = .ok (.ifCond .eq 14, 3) := by decide +kernel
theorem dX6_nextOutcome_50 : decode cX6_nextOutcome 50 = .ok (.aload 4, 2) := by decide +kernel
theorem dX6_nextOutcome_52 : decode cX6_nextOutcome 52 = .ok (.getfield 317, 3) := by decide +kernel
theorem dX6_nextOutcome_55 : decode cX6_nextOutcome 55 = .ok (.ifCond .eq 6, 3) := by decide +kernel
theorem dX6_nextOutcome_58 : decode cX6_nextOutcome 58 = .ok (.bipush 104, 2) := by decide +kernel
theorem dX6_nextOutcome_60 : decode cX6_nextOutcome 60 = .ok (.ireturn, 1) := by decide +kernel
theorem dX6_nextOutcome_61 : decode cX6_nextOutcome 61 = .ok (.aload 4, 2) := by decide +kernel
theorem dX6_nextOutcome_63 : decode cX6_nextOutcome 63 = .ok (.iconst 1, 1) := by decide +kernel
theorem dX6_nextOutcome_64 : decode cX6_nextOutcome 64 = .ok (.putfield 317, 3) := by decide +kernel
theorem dX6_nextOutcome_67 : decode cX6_nextOutcome 67 = .ok (.aload_n 0, 1) := by decide +kernel
theorem dX6_nextOutcome_68 : decode cX6_nextOutcome 68 = .ok (.getfield 35, 3) := by decide +kernel
theorem dX6_nextOutcome_71 : decode cX6_nextOutcome 71 = .ok (.iload 5, 2) := by decide +kernel
theorem dX6_nextOutcome_73 : decode cX6_nextOutcome 73 = .ok (.invokevirtual 320, 3) := by decide +kernel
theorem dX6_nextOutcome_76 : decode cX6_nextOutcome 76 = .ok (.ifCond .eq 8, 3) := by decide +kernel
theorem dX6_nextOutcome_79 : decode cX6_nextOutcome 79 = .ok (.bipush 108, 2) := by decide +kernel
theorem dX6_nextOutcome_81 : decode cX6_nextOutcome 81 = .ok (.goto 5, 3) := by decide +kernel
theorem dX6_nextOutcome_84 : decode cX6_nextOutcome 84 = .ok (.bipush 112, 2) := by decide +kernel
theorem dX6_nextOutcome_86 : decode cX6_nextOutcome 86 = .ok (.ireturn, 1) := by decide +kernel
theorem dX6_outcomeAlone_0 : decode cX6_outcomeAlone 0 = .ok (.aload_n 0, 1) := by decide +kernel
theorem dX6_outcomeAlone_1 : decode cX6_outcomeAlone 1 = .ok (.aload_n 1, 1) := by decide +kernel
theorem dX6_outcomeAlone_2 : decode cX6_outcomeAlone 2 = .ok (.iload_n 2, 1) := by decide +kernel
theorem dX6_outcomeAlone_3 : decode cX6_outcomeAlone 3 = .ok (.iload_n 3, 1) := by decide +kernel
theorem dX6_outcomeAlone_4 : decode cX6_outcomeAlone 4 = .ok (.invokevirtual 324, 3) := by decide +kernel
theorem dX6_outcomeAlone_7 : decode cX6_outcomeAlone 7 = .ok (.istore 4, 2) := by decide +kernel
theorem dX6_outcomeAlone_9 : decode cX6_outcomeAlone 9 = .ok (.iload 4, 2) := by decide +kernel
theorem dX6_outcomeAlone_11 : decode cX6_outcomeAlone 11 = .ok (.bipush 45, 2) := by decide +kernel
theorem dX6_outcomeAlone_13 : decode cX6_outcomeAlone 13 = .ok (.if_icmp .eq 6, 3) := by decide +kernel
theorem dX6_outcomeAlone_16 : decode cX6_outcomeAlone 16 = .ok (.iload 4, 2) := by decide +kernel
theorem dX6_outcomeAlone_18 : decode cX6_outcomeAlone 18 = .ok (.ireturn, 1) := by decide +kernel
theorem dX6_outcomeAlone_19 : decode cX6_outcomeAlone 19 = .ok (.aload_n 0, 1) := by decide +kernel
theorem dX6_outcomeAlone_20 : decode cX6_outcomeAlone 20 = .ok (.getfield 35, 3) := by decide +kernel
theorem dX6_outcomeAlone_23 : decode cX6_outcomeAlone 23 = .ok (.aload_n 0, 1) := by decide +kernel
theorem dX6_outcomeAlone_24 : decode cX6_outcomeAlone 24 = .ok (.getfield 28, 3) := by decide +kernel
theorem dX6_outcomeAlone_27 : decode cX6_outcomeAlone 27 = .ok (.invokevirtual 187, 3) := by decide +kernel
theorem dX6_outcomeAlone_30 : decode cX6_outcomeAlone 30 = .ok (.iconst 0, 1) := by decide +kernel
theorem dX6_outcomeAlone_31 : decode cX6_outcomeAlone 31 = .ok (.istore 5, 2) := by decide +kernel
theorem dX6_outcomeAlone_33 : decode cX6_outcomeAlone 33 = .ok (.iload 5, 2) := by decide +kernel
theorem dX6_outcomeAlone_35 : decode cX6_outcomeAlone 35 = .ok (.iload_n 3, 1) := by decide +kernel
theorem dX6_outcomeAlone_36 : decode cX6_outcomeAlone 36 = .ok (.if_icmp .ge 49, 3) := by decide +kernel
theorem dX6_outcomeAlone_39 : decode cX6_outcomeAlone 39 = .ok (.aload_n 0, 1) := by decide +kernel
theorem dX6_outcomeAlone_40 : decode cX6_outcomeAlone 40 = .ok (.aload_n 1, 1) := by decide +kernel
theorem dX6_outcomeAlone_41 : decode cX6_outcomeAlone 41 = .ok (.iload_n 2, 1) := by decide +kernel
theorem dX6_outcomeAlone_42 : decode cX6_outcomeAlone 42 = .ok (.iload 5, 2) := by decide +kernel
theorem dX6_outcomeAlone_44 : decode cX6_outcomeAlone 44 = .ok (.invokevirtual 324, 3) := by decide +kernel
theorem dX6_outcomeAlone_47 : decode cX6_outcomeAlone 47 = .ok (.bipush 45, 2) := by decide +kernel
theorem dX6_outcomeAlone_49 : decode cX6_outcomeAlone 49 = .ok (.if_icmp .ne 30, 3) := by decide +kernel
theorem dX6_outcomeAlone_52 : decode cX6_outcomeAlone 52 = .ok (.aload_n 0, 1) := by decide +kernel
theorem dX6_outcomeAlone_53 : decode cX6_outcomeAlone 53 = .ok (.getfield 35, 3) := by decide +kernel
theorem dX6_outcomeAlone_56 : decode cX6_outcomeAlone 56 = .ok (.aload_n 1, 1) := by decide +kernel
theorem dX6_outcomeAlone_57 : decode cX6_outcomeAlone 57 = .ok (.aload_n 0, 1) := by decide +kernel
theorem dX6_outcomeAlone_58 : decode cX6_outcomeAlone 58 = .ok (.getfield 16, 3) := by decide +kernel
theorem dX6_outcomeAlone_61 : decode cX6_outcomeAlone 61 = .ok (.iload 5, 2) := by decide +kernel
theorem dX6_outcomeAlone_63 : decode cX6_outcomeAlone 63 = .ok (.invokevirtual 73, 3) := by decide +kernel
theorem dX6_outcomeAlone_66 : decode cX6_outcomeAlone 66 = .ok (.checkcast 77, 3) := by decide +kernel
theorem dX6_outcomeAlone_69 : decode cX6_outcomeAlone 69 = .ok (.getfield 103, 3) := by decide +kernel
theorem dX6_outcomeAlone_72 : decode cX6_outcomeAlone 72 = .ok (.invokevirtual 144, 3) := by decide +kernel
theorem dX6_outcomeAlone_75 : decode cX6_outcomeAlone 75 = .ok (.invokevirtual 320, 3) := by decide +kernel
theorem dX6_outcomeAlone_78 : decode cX6_outcomeAlone 78 = .ok (.pop, 1) := by decide +kernel
theorem dX6_outcomeAlone_79 : decode cX6_outcomeAlone 79 = .ok (.iinc 5 1, 3) := by decide +kernel
theorem dX6_outcomeAlone_82 : decode cX6_outcomeAlone 82 = .ok (.goto (-49), 3) := by decide +kernel
theorem dX6_outcomeAlone_85 : decode cX6_outcomeAlone 85 = .ok (.aload_n 0, 1) := by decide +kernel
theorem dX6_outcomeAlone_86 : decode cX6_outcomeAlone 86 = .ok (.getfield 35, 3) := by decide +kernel
theorem dX6_outcomeAlone_89 : decode cX6_outcomeAlone 89 = .ok (.aload_n 1, 1) := by decide +kernel
theorem dX6_outcomeAlone_90 : decode cX6_outcomeAlone 90 = .ok (.aload_n 0, 1) := by decide +kernel
theorem dX6_outcomeAlone_91 : decode cX6_outcomeAlone 91 = .ok (.getfield 16, 3) := by decide +kernel
theorem dX6_outcomeAlone_94 : decode cX6_outcomeAlone 94 = .ok (.iload_n 3, 1) := by decide +kernel
theorem dX6_outcomeAlone_95 : decode cX6_outcomeAlone 95 = .ok (.invokevirtual 73, 3) := by decide +kernel
theorem dX6_outcomeAlone_98 : decode cX6_outcomeAlone 98 = .ok (.checkcast 77, 3) := by decide +kernel
theorem dX6_outcomeAlone_101 : decode cX6_outcomeAlone 101 = .ok (.getfield 103, 3) := by decide +kernel
theorem dX6_outcomeAlone_104 : decode cX6_outcomeAlone 104 = .ok (.invokevirtual 144, 3) := by decide +kernel
theorem dX6_outcomeAlone_107 : decode cX6_outcomeAlone 107 = .ok (.invokevirtual 320, 3) := by decide +kernel
theorem dX6_outcomeAlone_110 : decode cX6_outcomeAlone 110 = .ok (.ifCond .eq 8, 3) := by decide +kernel
theorem dX6_outcomeAlone_113 : decode cX6_outcomeAlone 113 = .ok (.bipush 108, 2) := by decide +kernel
theorem dX6_outcomeAlone_115 : decode cX6_outcomeAlone 115 = .ok (.goto 5, 3) := by decide +kernel
theorem dX6_outcomeAlone_118 : decode cX6_outcomeAlone 118 = .ok (.bipush 112, 2) := by decide +kernel
theorem dX6_outcomeAlone_120 : decode cX6_outcomeAlone 120 = .ok (.ireturn, 1) := by decide +kernel
theorem dX6_obstacleFor_0 : decode cX6_obstacleFor 0 = .ok (.aload_n 0, 1) := by decide +kernel
theorem dX6_obstacleFor_1 : decode cX6_obstacleFor 1 = .ok (.getfield 16, 3) := by decide +kernel
theorem dX6_obstacleFor_4 : decode cX6_obstacleFor 4 = .ok (.iload_n 3, 1) := by decide +kernel
theorem dX6_obstacleFor_5 : decode cX6_obstacleFor 5 = .ok (.invokevirtual 73, 3) := by decide +kernel
theorem dX6_obstacleFor_8 : decode cX6_obstacleFor 8 = .ok (.checkcast 77, 3) := by decide +kernel
theorem dX6_obstacleFor_11 : decode cX6_obstacleFor 11 = .ok (.astore 4, 2) := by decide +kernel
theorem dX6_obstacleFor_13 : decode cX6_obstacleFor 13 = .ok (.aload 4, 2) := by decide +kernel
theorem dX6_obstacleFor_15 : decode cX6_obstacleFor 15 = .ok (.invokevirtual 115, 3) := by decide +kernel
theorem dX6_obstacleFor_18 : decode cX6_obstacleFor 18 = .ok (.ifCond .eq 6, 3) := by decide +kernel
theorem dX6_obstacleFor_21 : decode cX6_obstacleFor 21 = .ok (.bipush 115, 2) := by decide +kernel
theorem dX6_obstacleFor_23 : decode cX6_obstacleFor 23 = .ok (.ireturn, 1) := by decide +kernel
theorem dX6_obstacleFor_24 : decode cX6_obstacleFor 24 = .ok (.aload_n 0, 1) := by decide +kernel
theorem dX6_obstacleFor_25 : decode cX6_obstacleFor 25 = .ok (.aload 4, 2) := by decide +kernel
theorem dX6_obstacleFor_27 : decode cX6_obstacleFor 27 = .ok (.getfield 79, 3) := by decide +kernel
theorem dX6_obstacleFor_30 : decode cX6_obstacleFor 30 = .ok (.invokevirtual 327, 3) := by decide +kernel
theorem dX6_obstacleFor_33 : decode cX6_obstacleFor 33 = .ok (.ifCond .eq 6, 3) := by decide +kernel
theorem dX6_obstacleFor_36 : decode cX6_obstacleFor 36 = .ok (.bipush 98, 2) := by decide +kernel
theorem dX6_obstacleFor_38 : decode cX6_obstacleFor 38 = .ok (.ireturn, 1) := by decide +kernel
theorem dX6_obstacleFor_39 : decode cX6_obstacleFor 39 = .ok (.aload_n 1, 1) := by decide +kernel
theorem dX6_obstacleFor_40 : decode cX6_obstacleFor 40 = .ok (.aload 4, 2) := by decide +kernel
theorem dX6_obstacleFor_42 : decode cX6_obstacleFor 42 = .ok (.getfield 103, 3) := by decide +kernel
theorem dX6_obstacleFor_45 : decode cX6_obstacleFor 45 = .ok (.invokevirtual 144, 3) := by decide +kernel
theorem dX6_obstacleFor_48 : decode cX6_obstacleFor 48 = .ok (.ifCond .ne 6, 3) := by decide +kernel
theorem dX6_obstacleFor_51 : decode cX6_obstacleFor 51 = .ok (.bipush 101, 2) := by decide +kernel
theorem dX6_obstacleFor_53 : decode cX6_obstacleFor 53 = .ok (.ireturn, 1) := by decide +kernel
theorem dX6_obstacleFor_54 : decode cX6_obstacleFor 54 = .ok (.iload_n 2, 1) := by decide +kernel
theorem dX6_obstacleFor_55 : decode cX6_obstacleFor 55 = .ok (.ifCond .eq 15, 3) := by decide +kernel
theorem dX6_obstacleFor_58 : decode cX6_obstacleFor 58 = .ok (.aload_n 0, 1) := by decide +kernel
theorem dX6_obstacleFor_59 : decode cX6_obstacleFor 59 = .ok (.aload_n 1, 1) := by decide +kernel
theorem dX6_obstacleFor_60 : decode cX6_obstacleFor 60 = .ok (.iload_n 3, 1) := by decide +kernel
theorem dX6_obstacleFor_61 : decode cX6_obstacleFor 61 = .ok (.invokevirtual 331, 3) := by decide +kernel
theorem dX6_obstacleFor_64 : decode cX6_obstacleFor 64 = .ok (.ifCond .eq 6, 3) := by decide +kernel
theorem dX6_obstacleFor_67 : decode cX6_obstacleFor 67 = .ok (.bipush 104, 2) := by decide +kernel
theorem dX6_obstacleFor_69 : decode cX6_obstacleFor 69 = .ok (.ireturn, 1) := by decide +kernel
theorem dX6_obstacleFor_70 : decode cX6_obstacleFor 70 = .ok (.bipush 45, 2) := by decide +kernel
theorem dX6_obstacleFor_72 : decode cX6_obstacleFor 72 = .ok (.ireturn, 1) := by decide +kernel
theorem dX6_staysBad_0 : decode cX6_staysBad 0 = .ok (.aload_n 1, 1) := by decide +kernel
theorem dX6_staysBad_1 : decode cX6_staysBad 1 = .ok (.getfield 83, 3) := by decide +kernel
theorem dX6_staysBad_4 : decode cX6_staysBad 4 = .ok (.iconst 2, 1) := by decide +kernel
theorem dX6_staysBad_5 : decode cX6_staysBad 5 = .ok (.if_icmp .ge 5, 3) := by decide +kernel
theorem dX6_staysBad_8 : decode cX6_staysBad 8 = .ok (.iconst 0, 1) := by decide +kernel
theorem dX6_staysBad_9 : decode cX6_staysBad 9 = .ok (.ireturn, 1) := by decide +kernel
theorem dX6_staysBad_10 : decode cX6_staysBad 10 = .ok (.aload_n 0, 1) := by decide +kernel
theorem dX6_staysBad_11 : decode cX6_staysBad 11 = .ok (.getfield 22, 3) := by decide +kernel
theorem dX6_staysBad_14 : decode cX6_staysBad 14 = .ok (.invokevirtual 311, 3) := by decide +kernel
theorem dX6_staysBad_17 : decode cX6_staysBad 17 = .ok (.ifCond .ne 29, 3) := by decide +kernel
theorem dX6_staysBad_20 : decode cX6_staysBad 20 = .ok (.aload_n 0, 1) := by decide +kernel
theorem dX6_staysBad_21 : decode cX6_staysBad 21 = .ok (.getfield 22, 3) := by decide +kernel
theorem dX6_staysBad_24 : decode cX6_staysBad 24 = .ok (.aload_n 0, 1) := by decide +kernel
theorem dX6_staysBad_25 : decode cX6_staysBad 25 = .ok (.getfield 22, 3) := by decide +kernel
theorem dX6_staysBad_28 : decode cX6_staysBad 28 = .ok (.invokevirtual 49, 3) := by decide +kernel
theorem dX6_staysBad_31 : decode cX6_staysBad 31 = .ok (.iconst 1, 1) := by decide +kernel
theorem dX6_staysBad_32 : decode cX6_staysBad 32 = .ok (.isub, 1) := by decide +kernel
theorem dX6_staysBad_33 : decode cX6_staysBad 33 = .ok (.invokevirtual 73, 3) := by decide +kernel
theorem dX6_staysBad_36 : decode cX6_staysBad 36 = .ok (.checkcast 168, 3) := by decide +kernel
theorem dX6_staysBad_39 : decode cX6_staysBad 39 = .ok (.aload_n 1, 1) := by decide +kernel
theorem dX6_staysBad_40 : decode cX6_staysBad 40 = .ok (.invokevirtual 335, 3) := by decide +kernel
theorem dX6_staysBad_43 : decode cX6_staysBad 43 = .ok (.ifCond .ne 7, 3) := by decide +kernel
theorem dX6_staysBad_46 : decode cX6_staysBad 46 = .ok (.iconst 1, 1) := by decide +kernel
theorem dX6_staysBad_47 : decode cX6_staysBad 47 = .ok (.goto 4, 3) := by decide +kernel
theorem dX6_staysBad_50 : decode cX6_staysBad 50 = .ok (.iconst 0, 1) := by decide +kernel
theorem dX6_staysBad_51 : decode cX6_staysBad 51 = .ok (.ireturn, 1) := by decide +kernel
theorem dX6_isHouseholdServedBefore_0 : decode cX6_isHouseholdServedBefore 0 = .ok (.aload_n 0, 1) := by decide +kernel
theorem dX6_isHouseholdServedBefore_1 : decode cX6_isHouseholdServedBefore 1 = .ok (.getfield 16, 3) := by decide +kernel
theorem dX6_isHouseholdServedBefore_4 : decode cX6_isHouseholdServedBefore 4 = .ok (.iload_n 2, 1) := by decide +kernel
theorem dX6_isHouseholdServedBefore_5 : decode cX6_isHouseholdServedBefore 5 = .ok (.invokevirtual 73, 3) := by decide +kernel
theorem dX6_isHouseholdServedBefore_8 : decode cX6_isHouseholdServedBefore 8 = .ok (.checkcast 77, 3) := by decide +kernel
theorem dX6_isHouseholdServedBefore_11 : decode cX6_isHouseholdServedBefore 11 = .ok (.getfield 79, 3) := by decide +kernel
theorem dX6_isHouseholdServedBefore_14 : decode cX6_isHouseholdServedBefore 14 = .ok (.astore_n 3, 1) := by decide +kernel
theorem dX6_isHouseholdServedBefore_15 : decode cX6_isHouseholdServedBefore 15 = .ok (.iconst 0, 1) := by decide +kernel
theorem dX6_isHouseholdServedBefore_16 : decode cX6_isHouseholdServedBefore 16 = .ok (.istore 4, 2) := by decide +kernel
theorem dX6_isHouseholdServedBefore_18 : decode cX6_isHouseholdServedBefore 18 = .ok (.iload 4, 2) := by decide +kernel
theorem dX6_isHouseholdServedBefore_20 : decode cX6_isHouseholdServedBefore 20 = .ok (.iload_n 2, 1) := by decide +kernel
theorem dX6_isHouseholdServedBefore_21 : decode cX6_isHouseholdServedBefore 21 = .ok (.if_icmp .ge 54, 3) := by decide +kernel
theorem dX6_isHouseholdServedBefore_24 : decode cX6_isHouseholdServedBefore 24 = .ok (.aload_n 0, 1) := by decide +kernel
theorem dX6_isHouseholdServedBefore_25 : decode cX6_isHouseholdServedBefore 25 = .ok (.getfield 16, 3) := by decide +kernel
theorem dX6_isHouseholdServedBefore_28 : decode cX6_isHouseholdServedBefore 28 = .ok (.iload 4, 2) := by decide +kernel
theorem dX6_isHouseholdServedBefore_30 : decode cX6_isHouseholdServedBefore 30 = .ok (.invokevirtual 73, 3) := by decide +kernel
theorem dX6_isHouseholdServedBefore_33 : decode cX6_isHouseholdServedBefore 33 = .ok (.checkcast 77, 3) := by decide +kernel
theorem dX6_isHouseholdServedBefore_36 : decode cX6_isHouseholdServedBefore 36 = .ok (.astore 5, 2) := by decide +kernel
theorem dX6_isHouseholdServedBefore_38 : decode cX6_isHouseholdServedBefore 38 = .ok (.aload 5, 2) := by decide +kernel
theorem dX6_isHouseholdServedBefore_40 : decode cX6_isHouseholdServedBefore 40 = .ok (.getfield 79, 3) := by decide +kernel
theorem dX6_isHouseholdServedBefore_43 : decode cX6_isHouseholdServedBefore 43 = .ok (.aload_n 3, 1) := by decide +kernel
theorem dX6_isHouseholdServedBefore_44 : decode cX6_isHouseholdServedBefore 44 = .ok (.if_acmp .ne 25, 3) := by decide +kernel
theorem dX6_isHouseholdServedBefore_47 : decode cX6_isHouseholdServedBefore 47 = .ok (.aload 5, 2) := by decide +kernel
theorem dX6_isHouseholdServedBefore_49 : decode cX6_isHouseholdServedBefore 49 = .ok (.invokevirtual 115, 3) := by decide +kernel
theorem dX6_isHouseholdServedBefore_52 : decode cX6_isHouseholdServedBefore 52 = .ok (.ifCond .ne 17, 3) := by decide +kernel
theorem dX6_isHouseholdServedBefore_55 : decode cX6_isHouseholdServedBefore 55 = .ok (.aload_n 1, 1) := by decide +kernel
theorem dX6_isHouseholdServedBefore_56 : decode cX6_isHouseholdServedBefore 56 = .ok (.aload 5, 2) := by decide +kernel
theorem dX6_isHouseholdServedBefore_58 : decode cX6_isHouseholdServedBefore 58 = .ok (.getfield 103, 3) := by decide +kernel
theorem dX6_isHouseholdServedBefore_61 : decode cX6_isHouseholdServedBefore 61 = .ok (.invokevirtual 144, 3) := by decide +kernel
theorem dX6_isHouseholdServedBefore_64 : decode cX6_isHouseholdServedBefore 64 = .ok (.ifCond .le 5, 3) := by decide +kernel
theorem dX6_isHouseholdServedBefore_67 : decode cX6_isHouseholdServedBefore 67 = .ok (.iconst 1, 1) := by decide +kernel
theorem dX6_isHouseholdServedBefore_68 : decode cX6_isHouseholdServedBefore 68 = .ok (.ireturn, 1) := by decide +kernel
theorem dX6_isHouseholdServedBefore_69 : decode cX6_isHouseholdServedBefore 69 = .ok (.iinc 4 1, 3) := by decide +kernel
theorem dX6_isHouseholdServedBefore_72 : decode cX6_isHouseholdServedBefore 72 = .ok (.goto (-54), 3) := by decide +kernel
theorem dX6_isHouseholdServedBefore_75 : decode cX6_isHouseholdServedBefore 75 = .ok (.iconst 0, 1) := by decide +kernel
theorem dX6_isHouseholdServedBefore_76 : decode cX6_isHouseholdServedBefore 76 = .ok (.ireturn, 1) := by decide +kernel
theorem dX6_countLetters_0 : decode cX6_countLetters 0 = .ok (.iconst 0, 1) := by decide +kernel
theorem dX6_countLetters_1 : decode cX6_countLetters 1 = .ok (.istore_n 1, 1) := by decide +kernel
theorem dX6_countLetters_2 : decode cX6_countLetters 2 = .ok (.iconst 0, 1) := by decide +kernel
theorem dX6_countLetters_3 : decode cX6_countLetters 3 = .ok (.istore_n 2, 1) := by decide +kernel
theorem dX6_countLetters_4 : decode cX6_countLetters 4 = .ok (.iload_n 2, 1) := by decide +kernel
theorem dX6_countLetters_5 : decode cX6_countLetters 5 = .ok (.aload_n 0, 1) := by decide +kernel
theorem dX6_countLetters_6 : decode cX6_countLetters 6 = .ok (.getfield 22, 3) := by decide +kernel
theorem dX6_countLetters_9 : decode cX6_countLetters 9 = .ok (.invokevirtual 49, 3) := by decide +kernel
theorem dX6_countLetters_12 : decode cX6_countLetters 12 = .ok (.if_icmp .ge 29, 3) := by decide +kernel
theorem dX6_countLetters_15 : decode cX6_countLetters 15 = .ok (.iload_n 1, 1) := by decide +kernel
theorem dX6_countLetters_16 : decode cX6_countLetters 16 = .ok (.aload_n 0, 1) := by decide +kernel
theorem dX6_countLetters_17 : decode cX6_countLetters 17 = .ok (.getfield 22, 3) := by decide +kernel
theorem dX6_countLetters_20 : decode cX6_countLetters 20 = .ok (.iload_n 2, 1) := by decide +kernel
theorem dX6_countLetters_21 : decode cX6_countLetters 21 = .ok (.invokevirtual 73, 3) := by decide +kernel
theorem dX6_countLetters_24 : decode cX6_countLetters 24 = .ok (.checkcast 168, 3) := by decide +kernel
theorem dX6_countLetters_27 : decode cX6_countLetters 27 = .ok (.getfield 228, 3) := by decide +kernel
theorem dX6_countLetters_30 : decode cX6_countLetters 30 = .ok (.invokevirtual 49, 3) := by decide +kernel
theorem dX6_countLetters_33 : decode cX6_countLetters 33 = .ok (.iadd, 1) := by decide +kernel
theorem dX6_countLetters_34 : decode cX6_countLetters 34 = .ok (.istore_n 1, 1) := by decide +kernel
theorem dX6_countLetters_35 : decode cX6_countLetters 35 = .ok (.iinc 2 1, 3) := by decide +kernel
theorem dX6_countLetters_38 : decode cX6_countLetters 38 = .ok (.goto (-34), 3) := by decide +kernel
theorem dX6_countLetters_41 : decode cX6_countLetters 41 = .ok (.iload_n 1, 1) := by decide +kernel
theorem dX6_countLetters_42 : decode cX6_countLetters 42 = .ok (.ireturn, 1) := by decide +kernel
theorem dX6_previewsAgree_0 : decode cX6_previewsAgree 0 = .ok (.aload_n 0, 1) := by decide +kernel
theorem dX6_previewsAgree_1 : decode cX6_previewsAgree 1 = .ok (.aload_n 1, 1) := by decide +kernel
theorem dX6_previewsAgree_2 : decode cX6_previewsAgree 2 = .ok (.iload_n 2, 1) := by decide +kernel
theorem dX6_previewsAgree_3 : decode cX6_previewsAgree 3 = .ok (.invokevirtual 164, 3) := by decide +kernel
theorem dX6_previewsAgree_6 : decode cX6_previewsAgree 6 = .ok (.iconst 0, 1) := by decide +kernel
theorem dX6_previewsAgree_7 : decode cX6_previewsAgree 7 = .ok (.istore_n 3, 1) := by decide +kernel
theorem dX6_previewsAgree_8 : decode cX6_previewsAgree 8 = .ok (.iload_n 3, 1) := by decide +kernel
theorem dX6_previewsAgree_9 : decode cX6_previewsAgree 9 = .ok (.aload_n 0, 1) := by decide +kernel
theorem dX6_previewsAgree_10 : decode cX6_previewsAgree 10 = .ok (.getfield 16, 3) := by decide +kernel
theorem dX6_previewsAgree_13 : decode cX6_previewsAgree 13 = .ok (.invokevirtual 49, 3) := by decide +kernel
theorem dX6_previewsAgree_16 : decode cX6_previewsAgree 16 = .ok (.if_icmp .ge 35, 3) := by decide +kernel
theorem dX6_previewsAgree_19 : decode cX6_previewsAgree 19 = .ok (.aload_n 0, 1) := by decide +kernel
theorem dX6_previewsAgree_20 : decode cX6_previewsAgree 20 = .ok (.getfield 16, 3) := by decide +kernel
theorem dX6_previewsAgree_23 : decode cX6_previewsAgree 23 = .ok (.iload_n 3, 1) := by decide +kernel
theorem dX6_previewsAgree_24 : decode cX6_previewsAgree 24 = .ok (.invokevirtual 73, 3) := by decide +kernel
theorem dX6_previewsAgree_27 : decode cX6_previewsAgree 27 = .ok (.checkcast 77, 3) := by decide +kernel
theorem dX6_previewsAgree_30 : decode cX6_previewsAgree 30 = .ok (.getfield 191, 3) := by decide +kernel
theorem dX6_previewsAgree_33 : decode cX6_previewsAgree 33 = .ok (.aload_n 0, 1) := by decide +kernel
theorem dX6_previewsAgree_34 : decode cX6_previewsAgree 34 = .ok (.aload_n 1, 1) := by decide +kernel
theorem dX6_previewsAgree_35 : decode cX6_previewsAgree 35 = .ok (.iload_n 2, 1) := by decide +kernel
theorem dX6_previewsAgree_36 : decode cX6_previewsAgree 36 = .ok (.iload_n 3, 1) := by decide +kernel
theorem dX6_previewsAgree_37 : decode cX6_previewsAgree 37 = .ok (.invokevirtual 194, 3) := by decide +kernel
theorem dX6_previewsAgree_40 : decode cX6_previewsAgree 40 = .ok (.if_icmp .eq 5, 3) := by decide +kernel
theorem dX6_previewsAgree_43 : decode cX6_previewsAgree 43 = .ok (.iconst 0, 1) := by decide +kernel
theorem dX6_previewsAgree_44 : decode cX6_previewsAgree 44 = .ok (.ireturn, 1) := by decide +kernel
theorem dX6_previewsAgree_45 : decode cX6_previewsAgree 45 = .ok (.iinc 3 1, 3) := by decide +kernel
theorem dX6_previewsAgree_48 : decode cX6_previewsAgree 48 = .ok (.goto (-40), 3) := by decide +kernel
theorem dX6_previewsAgree_51 : decode cX6_previewsAgree 51 = .ok (.iconst 1, 1) := by decide +kernel
theorem dX6_previewsAgree_52 : decode cX6_previewsAgree 52 = .ok (.ireturn, 1) := by decide +kernel
theorem dX6_stockAddsUp_0 : decode cX6_stockAddsUp 0 = .ok (.aload_n 0, 1) := by decide +kernel
theorem dX6_stockAddsUp_1 : decode cX6_stockAddsUp 1 = .ok (.getfield 35, 3) := by decide +kernel
theorem dX6_stockAddsUp_4 : decode cX6_stockAddsUp 4 = .ok (.aload_n 0, 1) := by decide +kernel
theorem dX6_stockAddsUp_5 : decode cX6_stockAddsUp 5 = .ok (.getfield 28, 3) := by decide +kernel
theorem dX6_stockAddsUp_8 : decode cX6_stockAddsUp 8 = .ok (.invokevirtual 187, 3) := by decide +kernel
theorem dX6_stockAddsUp_11 : decode cX6_stockAddsUp 11 = .ok (.iconst 0, 1) := by decide +kernel
theorem dX6_stockAddsUp_12 : decode cX6_stockAddsUp 12 = .ok (.istore_n 1, 1) := by decide +kernel
theorem dX6_stockAddsUp_13 : decode cX6_stockAddsUp 13 = .ok (.iload_n 1, 1) := by decide +kernel
theorem dX6_stockAddsUp_14 : decode cX6_stockAddsUp 14 = .ok (.aload_n 0, 1) := by decide +kernel
theorem dX6_stockAddsUp_15 : decode cX6_stockAddsUp 15 = .ok (.getfield 22, 3) := by decide +kernel
theorem dX6_stockAddsUp_18 : decode cX6_stockAddsUp 18 = .ok (.invokevirtual 49, 3) := by decide +kernel
theorem dX6_stockAddsUp_21 : decode cX6_stockAddsUp 21 = .ok (.if_icmp .ge 58, 3) := by decide +kernel
theorem dX6_stockAddsUp_24 : decode cX6_stockAddsUp 24 = .ok (.aload_n 0, 1) := by decide +kernel
theorem dX6_stockAddsUp_25 : decode cX6_stockAddsUp 25 = .ok (.getfield 22, 3) := by decide +kernel
theorem dX6_stockAddsUp_28 : decode cX6_stockAddsUp 28 = .ok (.iload_n 1, 1) := by decide +kernel
theorem dX6_stockAddsUp_29 : decode cX6_stockAddsUp 29 = .ok (.invokevirtual 73, 3) := by decide +kernel
theorem dX6_stockAddsUp_32 : decode cX6_stockAddsUp 32 = .ok (.checkcast 168, 3) := by decide +kernel
theorem dX6_stockAddsUp_35 : decode cX6_stockAddsUp 35 = .ok (.getfield 228, 3) := by decide +kernel
theorem dX6_stockAddsUp_38 : decode cX6_stockAddsUp 38 = .ok (.astore_n 2, 1) := by decide +kernel
theorem dX6_stockAddsUp_39 : decode cX6_stockAddsUp 39 = .ok (.iconst 0, 1) := by decide +kernel
theorem dX6_stockAddsUp_40 : decode cX6_stockAddsUp 40 = .ok (.istore_n 3, 1) := by decide +kernel
theorem dX6_stockAddsUp_41 : decode cX6_stockAddsUp 41 = .ok (.iload_n 3, 1) := by decide +kernel
theorem dX6_stockAddsUp_42 : decode cX6_stockAddsUp 42 = .ok (.aload_n 2, 1) := by decide +kernel
theorem dX6_stockAddsUp_43 : decode cX6_stockAddsUp 43 = .ok (.invokevirtual 49, 3) := by decide +kernel
theorem dX6_stockAddsUp_46 : decode cX6_stockAddsUp 46 = .ok (.if_icmp .ge 27, 3) := by decide +kernel
theorem dX6_stockAddsUp_49 : decode cX6_stockAddsUp 49 = .ok (.aload_n 0, 1) := by decide +kernel
theorem dX6_stockAddsUp_50 : decode cX6_stockAddsUp 50 = .ok (.getfield 35, 3) := by decide +kernel
theorem dX6_stockAddsUp_53 : decode cX6_stockAddsUp 53 = .ok (.aload_n 2, 1) := by decide +kernel
theorem dX6_stockAddsUp_54 : decode cX6_stockAddsUp 54 = .ok (.iload_n 3, 1) := by decide +kernel
theorem dX6_stockAddsUp_55 : decode cX6_stockAddsUp 55 = .ok (.invokevirtual 73, 3) := by decide +kernel
theorem dX6_stockAddsUp_58 : decode cX6_stockAddsUp 58 = .ok (.checkcast 172, 3) := by decide +kernel
theorem dX6_stockAddsUp_61 : decode cX6_stockAddsUp 61 = .ok (.getfield 338, 3) := by decide +kernel
theorem dX6_stockAddsUp_64 : decode cX6_stockAddsUp 64 = .ok (.invokevirtual 341, 3) := by decide +kernel
theorem dX6_stockAddsUp_67 : decode cX6_stockAddsUp 67 = .ok (.iinc 3 1, 3) := by decide +kernel
theorem dX6_stockAddsUp_70 : decode cX6_stockAddsUp 70 = .ok (.goto (-29), 3) := by decide +kernel
theorem dX6_stockAddsUp_73 : decode cX6_stockAddsUp 73 = .ok (.iinc 1 1, 3) := by decide +kernel
theorem dX6_stockAddsUp_76 : decode cX6_stockAddsUp 76 = .ok (.goto (-63), 3) := by decide +kernel
theorem dX6_stockAddsUp_79 : decode cX6_stockAddsUp 79 = .ok (.aload_n 0, 1) := by decide +kernel
theorem dX6_stockAddsUp_80 : decode cX6_stockAddsUp 80 = .ok (.getfield 35, 3) := by decide +kernel
theorem dX6_stockAddsUp_83 : decode cX6_stockAddsUp 83 = .ok (.aload_n 0, 1) := by decide +kernel
theorem dX6_stockAddsUp_84 : decode cX6_stockAddsUp 84 = .ok (.getfield 32, 3) := by decide +kernel
theorem dX6_stockAddsUp_87 : decode cX6_stockAddsUp 87 = .ok (.invokevirtual 344, 3) := by decide +kernel
theorem dX6_stockAddsUp_90 : decode cX6_stockAddsUp 90 = .ok (.ireturn, 1) := by decide +kernel
theorem dX6_needsLargeEnvelope_0 : decode cX6_needsLargeEnvelope 0 = .ok (.iload_n 0, 1) := by decide +kernel
theorem dX6_needsLargeEnvelope_1 : decode cX6_needsLargeEnvelope 1 = .ok (.iconst 3, 1) := by decide +kernel
theorem dX6_needsLargeEnvelope_2 : decode cX6_needsLargeEnvelope 2 = .ok (.if_icmp .le 7, 3) := by decide +kernel
theorem dX6_needsLargeEnvelope_5 : decode cX6_needsLargeEnvelope 5 = .ok (.iconst 1, 1) := by decide +kernel
theorem dX6_needsLargeEnvelope_6 : decode cX6_needsLargeEnvelope 6 = .ok (.goto 4, 3) := by decide +kernel
theorem dX6_needsLargeEnvelope_9 : decode cX6_needsLargeEnvelope 9 = .ok (.iconst 0, 1) := by decide +kernel
theorem dX6_needsLargeEnvelope_10 : decode cX6_needsLargeEnvelope 10 = .ok (.ireturn, 1) := by decide +kernel
theorem dJxf58ca_isNaN_12338_0 : decode cJxf58ca_isNaN_12338 0 = .ok (.fload_n 0, 1) := by decide +kernel
theorem dJxf58ca_isNaN_12338_1 : decode cJxf58ca_isNaN_12338 1 = .ok (.fload_n 0, 1) := by decide +kernel
theorem dJxf58ca_isNaN_12338_2 : decode cJxf58ca_isNaN_12338 2 = .ok (.fcmp .l, 1) := by decide +kernel
theorem dJxf58ca_isNaN_12338_3 : decode cJxf58ca_isNaN_12338 3 = .ok (.ifCond .eq 7, 3) := by decide +kernel
theorem dJxf58ca_isNaN_12338_6 : decode cJxf58ca_isNaN_12338 6 = .ok (.iconst 1, 1) := by decide +kernel
theorem dJxf58ca_isNaN_12338_7 : decode cJxf58ca_isNaN_12338 7 = .ok (.goto 4, 3) := by decide +kernel
theorem dJxf58ca_isNaN_12338_10 : decode cJxf58ca_isNaN_12338 10 = .ok (.iconst 0, 1) := by decide +kernel
theorem dJxf58ca_isNaN_12338_11 : decode cJxf58ca_isNaN_12338 11 = .ok (.ireturn, 1) := by decide +kernel
theorem dJxf58ca_floatToIntBits_5c35a_0 : decode cJxf58ca_floatToIntBits_5c35a 0 = .ok (.fload_n 0, 1) := by decide +kernel
theorem dJxf58ca_floatToIntBits_5c35a_1 : decode cJxf58ca_floatToIntBits_5c35a 1 = .ok (.invokestatic 59, 3) := by decide +kernel
theorem dJxf58ca_floatToIntBits_5c35a_4 : decode cJxf58ca_floatToIntBits_5c35a 4 = .ok (.ifCond .ne 8, 3) := by decide +kernel
theorem dJxf58ca_floatToIntBits_5c35a_7 : decode cJxf58ca_floatToIntBits_5c35a 7 = .ok (.fload_n 0, 1) := by decide +kernel
theorem dJxf58ca_floatToIntBits_5c35a_8 : decode cJxf58ca_floatToIntBits_5c35a 8 = .ok (.invokestatic 74, 3) := by decide +kernel
theorem dJxf58ca_floatToIntBits_5c35a_11 : decode cJxf58ca_floatToIntBits_5c35a 11 = .ok (.ireturn, 1) := by decide +kernel
theorem dJxf58ca_floatToIntBits_5c35a_12 : decode cJxf58ca_floatToIntBits_5c35a 12 = .ok (.ldc 77, 2) := by decide +kernel
theorem dJxf58ca_floatToIntBits_5c35a_14 : decode cJxf58ca_floatToIntBits_5c35a 14 = .ok (.ireturn, 1) := by decide +kernel
theorem dJ6_bitCount_0f7a4_0 : decode cJ6_bitCount_0f7a4 0 = .ok (.iload_n 0, 1) := by decide +kernel
theorem dJ6_bitCount_0f7a4_1 : decode cJ6_bitCount_0f7a4 1 = .ok (.iload_n 0, 1) := by decide +kernel
theorem dJ6_bitCount_0f7a4_2 : decode cJ6_bitCount_0f7a4 2 = .ok (.iconst 1, 1) := by decide +kernel
theorem dJ6_bitCount_0f7a4_3 : decode cJ6_bitCount_0f7a4 3 = .ok (.iushr, 1) := by decide +kernel
theorem dJ6_bitCount_0f7a4_4 : decode cJ6_bitCount_0f7a4 4 = .ok (.ldc_w 265, 3) := by decide +kernel
theorem dJ6_bitCount_0f7a4_7 : decode cJ6_bitCount_0f7a4 7 = .ok (.iand, 1) := by decide +kernel
theorem dJ6_bitCount_0f7a4_8 : decode cJ6_bitCount_0f7a4 8 = .ok (.isub, 1) := by decide +kernel
theorem dJ6_bitCount_0f7a4_9 : decode cJ6_bitCount_0f7a4 9 = .ok (.istore_n 0, 1) := by decide +kernel
theorem dJ6_bitCount_0f7a4_10 : decode cJ6_bitCount_0f7a4 10 = .ok (.iload_n 0, 1) := by decide +kernel
theorem dJ6_bitCount_0f7a4_11 : decode cJ6_bitCount_0f7a4 11 = .ok (.ldc_w 266, 3) := by decide +kernel
theorem dJ6_bitCount_0f7a4_14 : decode cJ6_bitCount_0f7a4 14 = .ok (.iand, 1) := by decide +kernel
theorem dJ6_bitCount_0f7a4_15 : decode cJ6_bitCount_0f7a4 15 = .ok (.iload_n 0, 1) := by decide +kernel
theorem dJ6_bitCount_0f7a4_16 : decode cJ6_bitCount_0f7a4 16 = .ok (.iconst 2, 1) := by decide +kernel
theorem dJ6_bitCount_0f7a4_17 : decode cJ6_bitCount_0f7a4 17 = .ok (.iushr, 1) := by decide +kernel
theorem dJ6_bitCount_0f7a4_18 : decode cJ6_bitCount_0f7a4 18 = .ok (.ldc_w 266, 3) := by decide +kernel
theorem dJ6_bitCount_0f7a4_21 : decode cJ6_bitCount_0f7a4 21 = .ok (.iand, 1) := by decide +kernel
theorem dJ6_bitCount_0f7a4_22 : decode cJ6_bitCount_0f7a4 22 = .ok (.iadd, 1) := by decide +kernel
theorem dJ6_bitCount_0f7a4_23 : decode cJ6_bitCount_0f7a4 23 = .ok (.istore_n 0, 1) := by decide +kernel
theorem dJ6_bitCount_0f7a4_24 : decode cJ6_bitCount_0f7a4 24 = .ok (.iload_n 0, 1) := by decide +kernel
theorem dJ6_bitCount_0f7a4_25 : decode cJ6_bitCount_0f7a4 25 = .ok (.iload_n 0, 1) := by decide +kernel
theorem dJ6_bitCount_0f7a4_26 : decode cJ6_bitCount_0f7a4 26 = .ok (.iconst 4, 1) := by decide +kernel
theorem dJ6_bitCount_0f7a4_27 : decode cJ6_bitCount_0f7a4 27 = .ok (.iushr, 1) := by decide +kernel
theorem dJ6_bitCount_0f7a4_28 : decode cJ6_bitCount_0f7a4 28 = .ok (.iadd, 1) := by decide +kernel
theorem dJ6_bitCount_0f7a4_29 : decode cJ6_bitCount_0f7a4 29 = .ok (.ldc_w 267, 3) := by decide +kernel
theorem dJ6_bitCount_0f7a4_32 : decode cJ6_bitCount_0f7a4 32 = .ok (.iand, 1) := by decide +kernel
theorem dJ6_bitCount_0f7a4_33 : decode cJ6_bitCount_0f7a4 33 = .ok (.istore_n 0, 1) := by decide +kernel
theorem dJ6_bitCount_0f7a4_34 : decode cJ6_bitCount_0f7a4 34 = .ok (.iload_n 0, 1) := by decide +kernel
theorem dJ6_bitCount_0f7a4_35 : decode cJ6_bitCount_0f7a4 35 = .ok (.iload_n 0, 1) := by decide +kernel
theorem dJ6_bitCount_0f7a4_36 : decode cJ6_bitCount_0f7a4 36 = .ok (.bipush 8, 2) := by decide +kernel
theorem dJ6_bitCount_0f7a4_38 : decode cJ6_bitCount_0f7a4 38 = .ok (.iushr, 1) := by decide +kernel
theorem dJ6_bitCount_0f7a4_39 : decode cJ6_bitCount_0f7a4 39 = .ok (.iadd, 1) := by decide +kernel
theorem dJ6_bitCount_0f7a4_40 : decode cJ6_bitCount_0f7a4 40 = .ok (.istore_n 0, 1) := by decide +kernel
theorem dJ6_bitCount_0f7a4_41 : decode cJ6_bitCount_0f7a4 41 = .ok (.iload_n 0, 1) := by decide +kernel
theorem dJ6_bitCount_0f7a4_42 : decode cJ6_bitCount_0f7a4 42 = .ok (.iload_n 0, 1) := by decide +kernel
theorem dJ6_bitCount_0f7a4_43 : decode cJ6_bitCount_0f7a4 43 = .ok (.bipush 16, 2) := by decide +kernel
theorem dJ6_bitCount_0f7a4_45 : decode cJ6_bitCount_0f7a4 45 = .ok (.iushr, 1) := by decide +kernel
theorem dJ6_bitCount_0f7a4_46 : decode cJ6_bitCount_0f7a4 46 = .ok (.iadd, 1) := by decide +kernel
theorem dJ6_bitCount_0f7a4_47 : decode cJ6_bitCount_0f7a4 47 = .ok (.istore_n 0, 1) := by decide +kernel
theorem dJ6_bitCount_0f7a4_48 : decode cJ6_bitCount_0f7a4 48 = .ok (.iload_n 0, 1) := by decide +kernel
theorem dJ6_bitCount_0f7a4_49 : decode cJ6_bitCount_0f7a4 49 = .ok (.bipush 63, 2) := by decide +kernel
theorem dJ6_bitCount_0f7a4_51 : decode cJ6_bitCount_0f7a4 51 = .ok (.iand, 1) := by decide +kernel
theorem dJ6_bitCount_0f7a4_52 : decode cJ6_bitCount_0f7a4 52 = .ok (.ireturn, 1) := by decide +kernel
theorem dJ0_charAt_5068e_0 : decode cJ0_charAt_5068e 0 = .ok (.aload_n 0, 1) := by decide +kernel
theorem dJ0_charAt_5068e_1 : decode cJ0_charAt_5068e 1 = .ok (.invokevirtual 492, 3) := by decide +kernel
theorem dJ0_charAt_5068e_4 : decode cJ0_charAt_5068e 4 = .ok (.ifCond .eq 12, 3) := by decide +kernel
theorem dJ0_charAt_5068e_7 : decode cJ0_charAt_5068e 7 = .ok (.aload_n 0, 1) := by decide +kernel
theorem dJ0_charAt_5068e_8 : decode cJ0_charAt_5068e 8 = .ok (.getfield 9, 3) := by decide +kernel
theorem dJ0_charAt_5068e_11 : decode cJ0_charAt_5068e 11 = .ok (.iload_n 1, 1) := by decide +kernel
theorem dJ0_charAt_5068e_12 : decode cJ0_charAt_5068e 12 = .ok (.invokestatic 495, 3) := by decide +kernel
theorem dJ0_charAt_5068e_15 : decode cJ0_charAt_5068e 15 = .ok (.ireturn, 1) := by decide +kernel
theorem dJ0_charAt_5068e_16 : decode cJ0_charAt_5068e 16 = .ok (.aload_n 0, 1) := by decide +kernel
theorem dJ0_charAt_5068e_17 : decode cJ0_charAt_5068e 17 = .ok (.getfield 9, 3) := by decide +kernel
theorem dJ0_charAt_5068e_20 : decode cJ0_charAt_5068e 20 = .ok (.iload_n 1, 1) := by decide +kernel
theorem dJ0_charAt_5068e_21 : decode cJ0_charAt_5068e 21 = .ok (.invokestatic 498, 3) := by decide +kernel
theorem dJ0_charAt_5068e_24 : decode cJ0_charAt_5068e 24 = .ok (.ireturn, 1) := by decide +kernel
theorem dJ0_isLatin1_aae02_0 : decode cJ0_isLatin1_aae02 0 = .ok (.getstatic 38, 3) := by decide +kernel
theorem dJ0_isLatin1_aae02_3 : decode cJ0_isLatin1_aae02 3 = .ok (.ifCond .eq 14, 3) := by decide +kernel
theorem dJ0_isLatin1_aae02_6 : decode cJ0_isLatin1_aae02 6 = .ok (.aload_n 0, 1) := by decide +kernel
theorem dJ0_isLatin1_aae02_7 : decode cJ0_isLatin1_aae02 7 = .ok (.getfield 15, 3) := by decide +kernel
theorem dJ0_isLatin1_aae02_10 : decode cJ0_isLatin1_aae02 10 = .ok (.ifCond .ne 7, 3) := by decide +kernel
theorem dJ0_isLatin1_aae02_13 : decode cJ0_isLatin1_aae02 13 = .ok (.iconst 1, 1) := by decide +kernel
theorem dJ0_isLatin1_aae02_14 : decode cJ0_isLatin1_aae02 14 = .ok (.goto 4, 3) := by decide +kernel
theorem dJ0_isLatin1_aae02_17 : decode cJ0_isLatin1_aae02 17 = .ok (.iconst 0, 1) := by decide +kernel
theorem dJ0_isLatin1_aae02_18 : decode cJ0_isLatin1_aae02 18 = .ok (.ireturn, 1) := by decide +kernel
theorem dJ0_checkIndex_df160_0 : decode cJ0_checkIndex_df160 0 = .ok (.iload_n 0, 1) := by decide +kernel
theorem dJ0_checkIndex_df160_1 : decode cJ0_checkIndex_df160 1 = .ok (.iload_n 1, 1) := by decide +kernel
theorem dJ0_checkIndex_df160_2 : decode cJ0_checkIndex_df160 2 = .ok (.getstatic 1053, 3) := by decide +kernel
theorem dJ0_checkIndex_df160_5 : decode cJ0_checkIndex_df160 5 = .ok (.invokestatic 1059, 3) := by decide +kernel
theorem dJ0_checkIndex_df160_8 : decode cJ0_checkIndex_df160 8 = .ok (.pop, 1) := by decide +kernel
theorem dJ0_checkIndex_df160_9 : decode cJ0_checkIndex_df160 9 = .ok (.return_, 1) := by decide +kernel
theorem dJ1_charAt_3b067_0 : decode cJ1_charAt_3b067 0 = .ok (.iload_n 1, 1) := by decide +kernel
theorem dJ1_charAt_3b067_1 : decode cJ1_charAt_3b067 1 = .ok (.aload_n 0, 1) := by decide +kernel
theorem dJ1_charAt_3b067_2 : decode cJ1_charAt_3b067 2 = .ok (.arraylength, 1) := by decide +kernel
theorem dJ1_charAt_3b067_3 : decode cJ1_charAt_3b067 3 = .ok (.invokestatic 9, 3) := by decide +kernel
theorem dJ1_charAt_3b067_6 : decode cJ1_charAt_3b067 6 = .ok (.aload_n 0, 1) := by decide +kernel
theorem dJ1_charAt_3b067_7 : decode cJ1_charAt_3b067 7 = .ok (.iload_n 1, 1) := by decide +kernel
theorem dJ1_charAt_3b067_8 : decode cJ1_charAt_3b067 8 = .ok (.baload, 1) := by decide +kernel
theorem dJ1_charAt_3b067_9 : decode cJ1_charAt_3b067 9 = .ok (.sipush 255, 3) := by decide +kernel
theorem dJ1_charAt_3b067_12 : decode cJ1_charAt_3b067 12 = .ok (.iand, 1) := by decide +kernel
theorem dJ1_charAt_3b067_13 : decode cJ1_charAt_3b067 13 = .ok (.i2c, 1) := by decide +kernel
theorem dJ1_charAt_3b067_14 : decode cJ1_charAt_3b067 14 = .ok (.ireturn, 1) := by decide +kernel
theorem dJxa1e45_init_da8c8_0 : decode cJxa1e45_init_da8c8 0 = .ok (.aload_n 0, 1) := by decide +kernel
theorem dJxa1e45_init_da8c8_1 : decode cJxa1e45_init_da8c8 1 = .ok (.invokespecial 1, 3) := by decide +kernel
theorem dJxa1e45_init_da8c8_4 : decode cJxa1e45_init_da8c8 4 = .ok (.return_, 1) := by decide +kernel
theorem dJxc12de_init_da8c8_0 : decode cJxc12de_init_da8c8 0 = .ok (.aload_n 0, 1) := by decide +kernel
theorem dJxc12de_init_da8c8_1 : decode cJxc12de_init_da8c8 1 = .ok (.invokespecial 1, 3) := by decide +kernel
theorem dJxc12de_init_da8c8_4 : decode cJxc12de_init_da8c8 4 = .ok (.aload_n 0, 1) := by decide +kernel
theorem dJxc12de_init_da8c8_5 : decode cJxc12de_init_da8c8 5 = .ok (.iconst 0, 1) := by decide +kernel
theorem dJxc12de_init_da8c8_6 : decode cJxc12de_init_da8c8 6 = .ok (.putfield 7, 3) := by decide +kernel
theorem dJxc12de_init_da8c8_9 : decode cJxc12de_init_da8c8 9 = .ok (.return_, 1) := by decide +kernel
theorem dJx4a65c_init_da8c8_0 : decode cJx4a65c_init_da8c8 0 = .ok (.aload_n 0, 1) := by decide +kernel
theorem dJx4a65c_init_da8c8_1 : decode cJx4a65c_init_da8c8 1 = .ok (.invokespecial 1, 3) := by decide +kernel
theorem dJx4a65c_init_da8c8_4 : decode cJx4a65c_init_da8c8 4 = .ok (.aload_n 0, 1) := by decide +kernel
theorem dJx4a65c_init_da8c8_5 : decode cJx4a65c_init_da8c8 5 = .ok (.getstatic 39, 3) := by decide +kernel
theorem dJx4a65c_init_da8c8_8 : decode cJx4a65c_init_da8c8 8 = .ok (.putfield 9, 3) := by decide +kernel
theorem dJx4a65c_init_da8c8_11 : decode cJx4a65c_init_da8c8 11 = .ok (.return_, 1) := by decide +kernel
theorem dJx4a65c_grow_92f84_0 : decode cJx4a65c_grow_92f84 0 = .ok (.aload_n 0, 1) := by decide +kernel
theorem dJx4a65c_grow_92f84_1 : decode cJx4a65c_grow_92f84 1 = .ok (.getfield 9, 3) := by decide +kernel
theorem dJx4a65c_grow_92f84_4 : decode cJx4a65c_grow_92f84 4 = .ok (.arraylength, 1) := by decide +kernel
theorem dJx4a65c_grow_92f84_5 : decode cJx4a65c_grow_92f84 5 = .ok (.istore_n 2, 1) := by decide +kernel
theorem dJx4a65c_grow_92f84_6 : decode cJx4a65c_grow_92f84 6 = .ok (.iload_n 2, 1) := by decide +kernel
theorem dJx4a65c_grow_92f84_7 : decode cJx4a65c_grow_92f84 7 = .ok (.ifCond .gt 13, 3) := by decide +kernel
theorem dJx4a65c_grow_92f84_10 : decode cJx4a65c_grow_92f84 10 = .ok (.aload_n 0, 1) := by decide +kernel
theorem dJx4a65c_grow_92f84_11 : decode cJx4a65c_grow_92f84 11 = .ok (.getfield 9, 3) := by decide +kernel
theorem dJx4a65c_grow_92f84_14 : decode cJx4a65c_grow_92f84 14 = .ok (.getstatic 39, 3) := by decide +kernel
theorem dJx4a65c_grow_92f84_17 : decode cJx4a65c_grow_92f84 17 = .ok (.if_acmp .eq 28, 3) := by decide +kernel
theorem dJx4a65c_grow_92f84_20 : decode cJx4a65c_grow_92f84 20 = .ok (.iload_n 2, 1) := by decide +kernel
theorem dJx4a65c_grow_92f84_21 : decode cJx4a65c_grow_92f84 21 = .ok (.iload_n 1, 1) := by decide +kernel
theorem dJx4a65c_grow_92f84_22 : decode cJx4a65c_grow_92f84 22 = .ok (.iload_n 2, 1) := by decide +kernel
theorem dJx4a65c_grow_92f84_23 : decode cJx4a65c_grow_92f84 23 = .ok (.isub, 1) := by decide +kernel
theorem dJx4a65c_grow_92f84_24 : decode cJx4a65c_grow_92f84 24 = .ok (.iload_n 2, 1) := by decide +kernel
theorem dJx4a65c_grow_92f84_25 : decode cJx4a65c_grow_92f84 25 = .ok (.iconst 1, 1) := by decide +kernel
theorem dJx4a65c_grow_92f84_26 : decode cJx4a65c_grow_92f84 26 = .ok (.ishr, 1) := by decide +kernel
theorem dJx4a65c_grow_92f84_27 : decode cJx4a65c_grow_92f84 27 = .ok (.invokestatic 73, 3) := by decide +kernel
theorem dJx4a65c_grow_92f84_30 : decode cJx4a65c_grow_92f84 30 = .ok (.istore_n 3, 1) := by decide +kernel
theorem dJx4a65c_grow_92f84_31 : decode cJx4a65c_grow_92f84 31 = .ok (.aload_n 0, 1) := by decide +kernel
theorem dJx4a65c_grow_92f84_32 : decode cJx4a65c_grow_92f84 32 = .ok (.aload_n 0, 1) := by decide +kernel
theorem dJx4a65c_grow_92f84_33 : decode cJx4a65c_grow_92f84 33 = .ok (.getfield 9, 3) := by decide +kernel
theorem dJx4a65c_grow_92f84_36 : decode cJx4a65c_grow_92f84 36 = .ok (.iload_n 3, 1) := by decide +kernel
theorem dJx4a65c_grow_92f84_37 : decode cJx4a65c_grow_92f84 37 = .ok (.invokestatic 66, 3) := by decide +kernel
theorem dJx4a65c_grow_92f84_40 : decode cJx4a65c_grow_92f84 40 = .ok (.dup_x1, 1) := by decide +kernel
theorem dJx4a65c_grow_92f84_41 : decode cJx4a65c_grow_92f84 41 = .ok (.putfield 9, 3) := by decide +kernel
theorem dJx4a65c_grow_92f84_44 : decode cJx4a65c_grow_92f84 44 = .ok (.areturn, 1) := by decide +kernel
theorem dJx4a65c_grow_92f84_45 : decode cJx4a65c_grow_92f84 45 = .ok (.aload_n 0, 1) := by decide +kernel
theorem dJx4a65c_grow_92f84_46 : decode cJx4a65c_grow_92f84 46 = .ok (.bipush 10, 2) := by decide +kernel
theorem dJx4a65c_grow_92f84_48 : decode cJx4a65c_grow_92f84 48 = .ok (.iload_n 1, 1) := by decide +kernel
theorem dJx4a65c_grow_92f84_49 : decode cJx4a65c_grow_92f84 49 = .ok (.invokestatic 79, 3) := by decide +kernel
theorem dJx4a65c_grow_92f84_52 : decode cJx4a65c_grow_92f84 52 = .ok (.anewarray 7, 3) := by decide +kernel
theorem dJx4a65c_grow_92f84_55 : decode cJx4a65c_grow_92f84 55 = .ok (.dup_x1, 1) := by decide +kernel
theorem dJx4a65c_grow_92f84_56 : decode cJx4a65c_grow_92f84 56 = .ok (.putfield 9, 3) := by decide +kernel
theorem dJx4a65c_grow_92f84_59 : decode cJx4a65c_grow_92f84 59 = .ok (.areturn, 1) := by decide +kernel
theorem dJx4a65c_grow_d5877_0 : decode cJx4a65c_grow_d5877 0 = .ok (.aload_n 0, 1) := by decide +kernel
theorem dJx4a65c_grow_d5877_1 : decode cJx4a65c_grow_d5877 1 = .ok (.aload_n 0, 1) := by decide +kernel
theorem dJx4a65c_grow_d5877_2 : decode cJx4a65c_grow_d5877 2 = .ok (.getfield 48, 3) := by decide +kernel
theorem dJx4a65c_grow_d5877_5 : decode cJx4a65c_grow_d5877 5 = .ok (.iconst 1, 1) := by decide +kernel
theorem dJx4a65c_grow_d5877_6 : decode cJx4a65c_grow_d5877 6 = .ok (.iadd, 1) := by decide +kernel
theorem dJx4a65c_grow_d5877_7 : decode cJx4a65c_grow_d5877 7 = .ok (.invokevirtual 69, 3) := by decide +kernel
theorem dJx4a65c_grow_d5877_10 : decode cJx4a65c_grow_d5877 10 = .ok (.areturn, 1) := by decide +kernel
theorem dJx4a65c_size_8abf5_0 : decode cJx4a65c_size_8abf5 0 = .ok (.aload_n 0, 1) := by decide +kernel
theorem dJx4a65c_size_8abf5_1 : decode cJx4a65c_size_8abf5 1 = .ok (.getfield 48, 3) := by decide +kernel
theorem dJx4a65c_size_8abf5_4 : decode cJx4a65c_size_8abf5 4 = .ok (.ireturn, 1) := by decide +kernel
theorem dJx4a65c_isEmpty_aae02_0 : decode cJx4a65c_isEmpty_aae02 0 = .ok (.aload_n 0, 1) := by decide +kernel
theorem dJx4a65c_isEmpty_aae02_1 : decode cJx4a65c_isEmpty_aae02 1 = .ok (.getfield 48, 3) := by decide +kernel
theorem dJx4a65c_isEmpty_aae02_4 : decode cJx4a65c_isEmpty_aae02 4 = .ok (.ifCond .ne 7, 3) := by decide +kernel
theorem dJx4a65c_isEmpty_aae02_7 : decode cJx4a65c_isEmpty_aae02 7 = .ok (.iconst 1, 1) := by decide +kernel
theorem dJx4a65c_isEmpty_aae02_8 : decode cJx4a65c_isEmpty_aae02 8 = .ok (.goto 4, 3) := by decide +kernel
theorem dJx4a65c_isEmpty_aae02_11 : decode cJx4a65c_isEmpty_aae02 11 = .ok (.iconst 0, 1) := by decide +kernel
theorem dJx4a65c_isEmpty_aae02_12 : decode cJx4a65c_isEmpty_aae02 12 = .ok (.ireturn, 1) := by decide +kernel
theorem dJx4a65c_elementData_915e3_0 : decode cJx4a65c_elementData_915e3 0 = .ok (.aload_n 0, 1) := by decide +kernel
theorem dJx4a65c_elementData_915e3_1 : decode cJx4a65c_elementData_915e3 1 = .ok (.getfield 9, 3) := by decide +kernel
theorem dJx4a65c_elementData_915e3_4 : decode cJx4a65c_elementData_915e3 4 = .ok (.iload_n 1, 1) := by decide +kernel
theorem dJx4a65c_elementData_915e3_5 : decode cJx4a65c_elementData_915e3 5 = .ok (.aaload, 1) := by decide +kernel
theorem dJx4a65c_elementData_915e3_6 : decode cJx4a65c_elementData_915e3 6 = .ok (.areturn, 1) := by decide +kernel
theorem dJx4a65c_get_915e3_0 : decode cJx4a65c_get_915e3 0 = .ok (.iload_n 1, 1) := by decide +kernel
theorem dJx4a65c_get_915e3_1 : decode cJx4a65c_get_915e3 1 = .ok (.aload_n 0, 1) := by decide +kernel
theorem dJx4a65c_get_915e3_2 : decode cJx4a65c_get_915e3 2 = .ok (.getfield 48, 3) := by decide +kernel
theorem dJx4a65c_get_915e3_5 : decode cJx4a65c_get_915e3 5 = .ok (.invokestatic 118, 3) := by decide +kernel
theorem dJx4a65c_get_915e3_8 : decode cJx4a65c_get_915e3 8 = .ok (.pop, 1) := by decide +kernel
theorem dJx4a65c_get_915e3_9 : decode cJx4a65c_get_915e3 9 = .ok (.aload_n 0, 1) := by decide +kernel
theorem dJx4a65c_get_915e3_10 : decode cJx4a65c_get_915e3 10 = .ok (.iload_n 1, 1) := by decide +kernel
theorem dJx4a65c_get_915e3_11 : decode cJx4a65c_get_915e3 11 = .ok (.invokevirtual 123, 3) := by decide +kernel
theorem dJx4a65c_get_915e3_14 : decode cJx4a65c_get_915e3 14 = .ok (.areturn, 1) := by decide +kernel
theorem dJx4a65c_add_72be8_0 : decode cJx4a65c_add_72be8 0 = .ok (.iload_n 3, 1) := by decide +kernel
theorem dJx4a65c_add_72be8_1 : decode cJx4a65c_add_72be8 1 = .ok (.aload_n 2, 1) := by decide +kernel
theorem dJx4a65c_add_72be8_2 : decode cJx4a65c_add_72be8 2 = .ok (.arraylength, 1) := by decide +kernel
theorem dJx4a65c_add_72be8_3 : decode cJx4a65c_add_72be8 3 = .ok (.if_icmp .ne 8, 3) := by decide +kernel
theorem dJx4a65c_add_72be8_6 : decode cJx4a65c_add_72be8 6 = .ok (.aload_n 0, 1) := by decide +kernel
theorem dJx4a65c_add_72be8_7 : decode cJx4a65c_add_72be8 7 = .ok (.invokevirtual 129, 3) := by decide +kernel
theorem dJx4a65c_add_72be8_10 : decode cJx4a65c_add_72be8 10 = .ok (.astore_n 2, 1) := by decide +kernel
theorem dJx4a65c_add_72be8_11 : decode cJx4a65c_add_72be8 11 = .ok (.aload_n 2, 1) := by decide +kernel
theorem dJx4a65c_add_72be8_12 : decode cJx4a65c_add_72be8 12 = .ok (.iload_n 3, 1) := by decide +kernel
theorem dJx4a65c_add_72be8_13 : decode cJx4a65c_add_72be8 13 = .ok (.aload_n 1, 1) := by decide +kernel
theorem dJx4a65c_add_72be8_14 : decode cJx4a65c_add_72be8 14 = .ok (.aastore, 1) := by decide +kernel
theorem dJx4a65c_add_72be8_15 : decode cJx4a65c_add_72be8 15 = .ok (.aload_n 0, 1) := by decide +kernel
theorem dJx4a65c_add_72be8_16 : decode cJx4a65c_add_72be8 16 = .ok (.iload_n 3, 1) := by decide +kernel
theorem dJx4a65c_add_72be8_17 : decode cJx4a65c_add_72be8 17 = .ok (.iconst 1, 1) := by decide +kernel
theorem dJx4a65c_add_72be8_18 : decode cJx4a65c_add_72be8 18 = .ok (.iadd, 1) := by decide +kernel
theorem dJx4a65c_add_72be8_19 : decode cJx4a65c_add_72be8 19 = .ok (.putfield 48, 3) := by decide +kernel
theorem dJx4a65c_add_72be8_22 : decode cJx4a65c_add_72be8 22 = .ok (.return_, 1) := by decide +kernel
theorem dJx4a65c_add_9ea2d_0 : decode cJx4a65c_add_9ea2d 0 = .ok (.aload_n 0, 1) := by decide +kernel
theorem dJx4a65c_add_9ea2d_1 : decode cJx4a65c_add_9ea2d 1 = .ok (.dup, 1) := by decide +kernel
theorem dJx4a65c_add_9ea2d_2 : decode cJx4a65c_add_9ea2d 2 = .ok (.getfield 63, 3) := by decide +kernel
theorem dJx4a65c_add_9ea2d_5 : decode cJx4a65c_add_9ea2d 5 = .ok (.iconst 1, 1) := by decide +kernel
theorem dJx4a65c_add_9ea2d_6 : decode cJx4a65c_add_9ea2d 6 = .ok (.iadd, 1) := by decide +kernel
theorem dJx4a65c_add_9ea2d_7 : decode cJx4a65c_add_9ea2d 7 = .ok (.putfield 63, 3) := by decide +kernel
theorem dJx4a65c_add_9ea2d_10 : decode cJx4a65c_add_9ea2d 10 = .ok (.aload_n 0, 1) := by decide +kernel
theorem dJx4a65c_add_9ea2d_11 : decode cJx4a65c_add_9ea2d 11 = .ok (.aload_n 1, 1) := by decide +kernel
theorem dJx4a65c_add_9ea2d_12 : decode cJx4a65c_add_9ea2d 12 = .ok (.aload_n 0, 1) := by decide +kernel
theorem dJx4a65c_add_9ea2d_13 : decode cJx4a65c_add_9ea2d 13 = .ok (.getfield 9, 3) := by decide +kernel
theorem dJx4a65c_add_9ea2d_16 : decode cJx4a65c_add_9ea2d 16 = .ok (.aload_n 0, 1) := by decide +kernel
theorem dJx4a65c_add_9ea2d_17 : decode cJx4a65c_add_9ea2d 17 = .ok (.getfield 48, 3) := by decide +kernel
theorem dJx4a65c_add_9ea2d_20 : decode cJx4a65c_add_9ea2d 20 = .ok (.invokevirtual 131, 3) := by decide +kernel
theorem dJx4a65c_add_9ea2d_23 : decode cJx4a65c_add_9ea2d 23 = .ok (.iconst 1, 1) := by decide +kernel
theorem dJx4a65c_add_9ea2d_24 : decode cJx4a65c_add_9ea2d 24 = .ok (.ireturn, 1) := by decide +kernel
theorem dJx4a65c_add_7a177_0 : decode cJx4a65c_add_7a177 0 = .ok (.aload_n 0, 1) := by decide +kernel
theorem dJx4a65c_add_7a177_1 : decode cJx4a65c_add_7a177 1 = .ok (.iload_n 1, 1) := by decide +kernel
theorem dJx4a65c_add_7a177_2 : decode cJx4a65c_add_7a177 2 = .ok (.invokevirtual 135, 3) := by decide +kernel
theorem dJx4a65c_add_7a177_5 : decode cJx4a65c_add_7a177 5 = .ok (.aload_n 0, 1) := by decide +kernel
theorem dJx4a65c_add_7a177_6 : decode cJx4a65c_add_7a177 6 = .ok (.dup, 1) := by decide +kernel
theorem dJx4a65c_add_7a177_7 : decode cJx4a65c_add_7a177 7 = .ok (.getfield 63, 3) := by decide +kernel
theorem dJx4a65c_add_7a177_10 : decode cJx4a65c_add_7a177 10 = .ok (.iconst 1, 1) := by decide +kernel
theorem dJx4a65c_add_7a177_11 : decode cJx4a65c_add_7a177 11 = .ok (.iadd, 1) := by decide +kernel
theorem dJx4a65c_add_7a177_12 : decode cJx4a65c_add_7a177 12 = .ok (.putfield 63, 3) := by decide +kernel
theorem dJx4a65c_add_7a177_15 : decode cJx4a65c_add_7a177 15 = .ok (.aload_n 0, 1) := by decide +kernel
theorem dJx4a65c_add_7a177_16 : decode cJx4a65c_add_7a177 16 = .ok (.getfield 48, 3) := by decide +kernel
theorem dJx4a65c_add_7a177_19 : decode cJx4a65c_add_7a177 19 = .ok (.dup, 1) := by decide +kernel
theorem dJx4a65c_add_7a177_20 : decode cJx4a65c_add_7a177 20 = .ok (.istore_n 3, 1) := by decide +kernel
theorem dJx4a65c_add_7a177_21 : decode cJx4a65c_add_7a177 21 = .ok (.aload_n 0, 1) := by decide +kernel
theorem dJx4a65c_add_7a177_22 : decode cJx4a65c_add_7a177 22 = .ok (.getfield 9, 3) := by decide +kernel
theorem dJx4a65c_add_7a177_25 : decode cJx4a65c_add_7a177 25 = .ok (.dup, 1) := by decide +kernel
theorem dJx4a65c_add_7a177_26 : decode cJx4a65c_add_7a177 26 = .ok (.astore 4, 2) := by decide +kernel
theorem dJx4a65c_add_7a177_28 : decode cJx4a65c_add_7a177 28 = .ok (.arraylength, 1) := by decide +kernel
theorem dJx4a65c_add_7a177_29 : decode cJx4a65c_add_7a177 29 = .ok (.if_icmp .ne 9, 3) := by decide +kernel
theorem dJx4a65c_add_7a177_32 : decode cJx4a65c_add_7a177 32 = .ok (.aload_n 0, 1) := by decide +kernel
theorem dJx4a65c_add_7a177_33 : decode cJx4a65c_add_7a177 33 = .ok (.invokevirtual 129, 3) := by decide +kernel
theorem dJx4a65c_add_7a177_36 : decode cJx4a65c_add_7a177 36 = .ok (.astore 4, 2) := by decide +kernel
theorem dJx4a65c_add_7a177_38 : decode cJx4a65c_add_7a177 38 = .ok (.aload 4, 2) := by decide +kernel
theorem dJx4a65c_add_7a177_40 : decode cJx4a65c_add_7a177 40 = .ok (.iload_n 1, 1) := by decide +kernel
theorem dJx4a65c_add_7a177_41 : decode cJx4a65c_add_7a177 41 = .ok (.aload 4, 2) := by decide +kernel
theorem dJx4a65c_add_7a177_43 : decode cJx4a65c_add_7a177 43 = .ok (.iload_n 1, 1) := by decide +kernel
theorem dJx4a65c_add_7a177_44 : decode cJx4a65c_add_7a177 44 = .ok (.iconst 1, 1) := by decide +kernel
theorem dJx4a65c_add_7a177_45 : decode cJx4a65c_add_7a177 45 = .ok (.iadd, 1) := by decide +kernel
theorem dJx4a65c_add_7a177_46 : decode cJx4a65c_add_7a177 46 = .ok (.iload_n 3, 1) := by decide +kernel
theorem dJx4a65c_add_7a177_47 : decode cJx4a65c_add_7a177 47 = .ok (.iload_n 1, 1) := by decide +kernel
theorem dJx4a65c_add_7a177_48 : decode cJx4a65c_add_7a177 48 = .ok (.isub, 1) := by decide +kernel
theorem dJx4a65c_add_7a177_49 : decode cJx4a65c_add_7a177 49 = .ok (.invokestatic 112, 3) := by decide +kernel
theorem dJx4a65c_add_7a177_52 : decode cJx4a65c_add_7a177 52 = .ok (.aload 4, 2) := by decide +kernel
theorem dJx4a65c_add_7a177_54 : decode cJx4a65c_add_7a177 54 = .ok (.iload_n 1, 1) := by decide +kernel
theorem dJx4a65c_add_7a177_55 : decode cJx4a65c_add_7a177 55 = .ok (.aload_n 2, 1) := by decide +kernel
theorem dJx4a65c_add_7a177_56 : decode cJx4a65c_add_7a177 56 = .ok (.aastore, 1) := by decide +kernel
theorem dJx4a65c_add_7a177_57 : decode cJx4a65c_add_7a177 57 = .ok (.aload_n 0, 1) := by decide +kernel
theorem dJx4a65c_add_7a177_58 : decode cJx4a65c_add_7a177 58 = .ok (.iload_n 3, 1) := by decide +kernel
theorem dJx4a65c_add_7a177_59 : decode cJx4a65c_add_7a177 59 = .ok (.iconst 1, 1) := by decide +kernel
theorem dJx4a65c_add_7a177_60 : decode cJx4a65c_add_7a177 60 = .ok (.iadd, 1) := by decide +kernel
theorem dJx4a65c_add_7a177_61 : decode cJx4a65c_add_7a177 61 = .ok (.putfield 48, 3) := by decide +kernel
theorem dJx4a65c_add_7a177_64 : decode cJx4a65c_add_7a177 64 = .ok (.return_, 1) := by decide +kernel
theorem dJx4a65c_rangeCheckForAdd_d00df_0 : decode cJx4a65c_rangeCheckForAdd_d00df 0 = .ok (.iload_n 1, 1) := by decide +kernel
theorem dJx4a65c_rangeCheckForAdd_d00df_1 : decode cJx4a65c_rangeCheckForAdd_d00df 1 = .ok (.aload_n 0, 1) := by decide +kernel
theorem dJx4a65c_rangeCheckForAdd_d00df_2 : decode cJx4a65c_rangeCheckForAdd_d00df 2 = .ok (.getfield 48, 3) := by decide +kernel
theorem dJx4a65c_rangeCheckForAdd_d00df_5 : decode cJx4a65c_rangeCheckForAdd_d00df 5 = .ok (.if_icmp .gt 7, 3) := by decide +kernel
theorem dJx4a65c_rangeCheckForAdd_d00df_8 : decode cJx4a65c_rangeCheckForAdd_d00df 8 = .ok (.iload_n 1, 1) := by decide +kernel
theorem dJx4a65c_rangeCheckForAdd_d00df_9 : decode cJx4a65c_rangeCheckForAdd_d00df 9 = .ok (.ifCond .ge 16, 3) := by decide +kernel
theorem dJx4a65c_rangeCheckForAdd_d00df_12 : decode cJx4a65c_rangeCheckForAdd_d00df 12 = .ok (.new 187, 3) := by decide +kernel
theorem dJx4a65c_rangeCheckForAdd_d00df_15 : decode cJx4a65c_rangeCheckForAdd_d00df 15 = .ok (.dup, 1) := by decide +kernel
theorem dJx4a65c_rangeCheckForAdd_d00df_16 : decode cJx4a65c_rangeCheckForAdd_d00df 16 = .ok (.aload_n 0, 1) := by decide +kernel
theorem dJx4a65c_rangeCheckForAdd_d00df_17 : decode cJx4a65c_rangeCheckForAdd_d00df 17 = .ok (.iload_n 1, 1) := by decide +kernel
theorem dJx4a65c_rangeCheckForAdd_d00df_18 : decode cJx4a65c_rangeCheckForAdd_d00df 18 = .ok (.invokevirtual 198, 3) := by decide +kernel
theorem dJx4a65c_rangeCheckForAdd_d00df_21 : decode cJx4a65c_rangeCheckForAdd_d00df 21 = .ok (.invokespecial 193, 3) := by decide +kernel
theorem dJx4a65c_rangeCheckForAdd_d00df_24 : decode cJx4a65c_rangeCheckForAdd_d00df 24 = .ok (.athrow, 1) := by decide +kernel
theorem dJx4a65c_rangeCheckForAdd_d00df_25 : decode cJx4a65c_rangeCheckForAdd_d00df 25 = .ok (.return_, 1) := by decide +kernel
theorem dJ7_copyOf_1904c_0 : decode cJ7_copyOf_1904c 0 = .ok (.aload_n 0, 1) := by decide +kernel
theorem dJ7_copyOf_1904c_1 : decode cJ7_copyOf_1904c 1 = .ok (.iload_n 1, 1) := by decide +kernel
theorem dJ7_copyOf_1904c_2 : decode cJ7_copyOf_1904c 2 = .ok (.aload_n 0, 1) := by decide +kernel
theorem dJ7_copyOf_1904c_3 : decode cJ7_copyOf_1904c 3 = .ok (.invokevirtual 86, 3) := by decide +kernel
theorem dJ7_copyOf_1904c_6 : decode cJ7_copyOf_1904c 6 = .ok (.invokestatic 300, 3) := by decide +kernel
theorem dJ7_copyOf_1904c_9 : decode cJ7_copyOf_1904c 9 = .ok (.areturn, 1) := by decide +kernel
theorem dJ7_copyOf_6403c_0 : decode cJ7_copyOf_6403c 0 = .ok (.aload_n 2, 1) := by decide +kernel
theorem dJ7_copyOf_6403c_1 : decode cJ7_copyOf_6403c 1 = .ok (.ldc 110, 2) := by decide +kernel
theorem dJ7_copyOf_6403c_3 : decode cJ7_copyOf_6403c 3 = .ok (.if_acmp .ne 10, 3) := by decide +kernel
theorem dJ7_copyOf_6403c_6 : decode cJ7_copyOf_6403c 6 = .ok (.iload_n 1, 1) := by decide +kernel
theorem dJ7_copyOf_6403c_7 : decode cJ7_copyOf_6403c 7 = .ok (.anewarray 2, 3) := by decide +kernel
theorem dJ7_copyOf_6403c_10 : decode cJ7_copyOf_6403c 10 = .ok (.goto 14, 3) := by decide +kernel
theorem dJ7_copyOf_6403c_13 : decode cJ7_copyOf_6403c 13 = .ok (.aload_n 2, 1) := by decide +kernel
theorem dJ7_copyOf_6403c_14 : decode cJ7_copyOf_6403c 14 = .ok (.invokevirtual 90, 3) := by decide +kernel
theorem dJ7_copyOf_6403c_17 : decode cJ7_copyOf_6403c 17 = .ok (.iload_n 1, 1) := by decide +kernel
theorem dJ7_copyOf_6403c_18 : decode cJ7_copyOf_6403c 18 = .ok (.invokestatic 95, 3) := by decide +kernel
theorem dJ7_copyOf_6403c_21 : decode cJ7_copyOf_6403c 21 = .ok (.checkcast 110, 3) := by decide +kernel
theorem dJ7_copyOf_6403c_24 : decode cJ7_copyOf_6403c 24 = .ok (.astore_n 3, 1) := by decide +kernel
theorem dJ7_copyOf_6403c_25 : decode cJ7_copyOf_6403c 25 = .ok (.aload_n 0, 1) := by decide +kernel
theorem dJ7_copyOf_6403c_26 : decode cJ7_copyOf_6403c 26 = .ok (.iconst 0, 1) := by decide +kernel
theorem dJ7_copyOf_6403c_27 : decode cJ7_copyOf_6403c 27 = .ok (.aload_n 3, 1) := by decide +kernel
theorem dJ7_copyOf_6403c_28 : decode cJ7_copyOf_6403c 28 = .ok (.iconst 0, 1) := by decide +kernel
theorem dJ7_copyOf_6403c_29 : decode cJ7_copyOf_6403c 29 = .ok (.aload_n 0, 1) := by decide +kernel
theorem dJ7_copyOf_6403c_30 : decode cJ7_copyOf_6403c 30 = .ok (.arraylength, 1) := by decide +kernel
theorem dJ7_copyOf_6403c_31 : decode cJ7_copyOf_6403c 31 = .ok (.iload_n 1, 1) := by decide +kernel
theorem dJ7_copyOf_6403c_32 : decode cJ7_copyOf_6403c 32 = .ok (.invokestatic 304, 3) := by decide +kernel
theorem dJ7_copyOf_6403c_35 : decode cJ7_copyOf_6403c 35 = .ok (.invokestatic 150, 3) := by decide +kernel
theorem dJ7_copyOf_6403c_38 : decode cJ7_copyOf_6403c 38 = .ok (.aload_n 3, 1) := by decide +kernel
theorem dJ7_copyOf_6403c_39 : decode cJ7_copyOf_6403c 39 = .ok (.areturn, 1) := by decide +kernel
theorem dJ15_checkIndex_7cf53_0 : decode cJ15_checkIndex_7cf53 0 = .ok (.iload_n 0, 1) := by decide +kernel
theorem dJ15_checkIndex_7cf53_1 : decode cJ15_checkIndex_7cf53 1 = .ok (.iload_n 1, 1) := by decide +kernel
theorem dJ15_checkIndex_7cf53_2 : decode cJ15_checkIndex_7cf53 2 = .ok (.aconst_null, 1) := by decide +kernel
theorem dJ15_checkIndex_7cf53_3 : decode cJ15_checkIndex_7cf53 3 = .ok (.invokestatic 105, 3) := by decide +kernel
theorem dJ15_checkIndex_7cf53_6 : decode cJ15_checkIndex_7cf53 6 = .ok (.ireturn, 1) := by decide +kernel
theorem dJ8_newLength_cabcc_0 : decode cJ8_newLength_cabcc 0 = .ok (.iload_n 0, 1) := by decide +kernel
theorem dJ8_newLength_cabcc_1 : decode cJ8_newLength_cabcc 1 = .ok (.iload_n 1, 1) := by decide +kernel
theorem dJ8_newLength_cabcc_2 : decode cJ8_newLength_cabcc 2 = .ok (.iload_n 2, 1) := by decide +kernel
theorem dJ8_newLength_cabcc_3 : decode cJ8_newLength_cabcc 3 = .ok (.invokestatic 194, 3) := by decide +kernel
theorem dJ8_newLength_cabcc_6 : decode cJ8_newLength_cabcc 6 = .ok (.iadd, 1) := by decide +kernel
theorem dJ8_newLength_cabcc_7 : decode cJ8_newLength_cabcc 7 = .ok (.istore_n 3, 1) := by decide +kernel
theorem dJ8_newLength_cabcc_8 : decode cJ8_newLength_cabcc 8 = .ok (.iconst 0, 1) := by decide +kernel
theorem dJ8_newLength_cabcc_9 : decode cJ8_newLength_cabcc 9 = .ok (.iload_n 3, 1) := by decide +kernel
theorem dJ8_newLength_cabcc_10 : decode cJ8_newLength_cabcc 10 = .ok (.if_icmp .ge 11, 3) := by decide +kernel
theorem dJ8_newLength_cabcc_13 : decode cJ8_newLength_cabcc 13 = .ok (.iload_n 3, 1) := by decide +kernel
theorem dJ8_newLength_cabcc_14 : decode cJ8_newLength_cabcc 14 = .ok (.ldc 200, 2) := by decide +kernel
theorem dJ8_newLength_cabcc_16 : decode cJ8_newLength_cabcc 16 = .ok (.if_icmp .gt 5, 3) := by decide +kernel
theorem dJ8_newLength_cabcc_19 : decode cJ8_newLength_cabcc 19 = .ok (.iload_n 3, 1) := by decide +kernel
theorem dJ8_newLength_cabcc_20 : decode cJ8_newLength_cabcc 20 = .ok (.ireturn, 1) := by decide +kernel
theorem dJ8_newLength_cabcc_21 : decode cJ8_newLength_cabcc 21 = .ok (.iload_n 0, 1) := by decide +kernel
theorem dJ8_newLength_cabcc_22 : decode cJ8_newLength_cabcc 22 = .ok (.iload_n 1, 1) := by decide +kernel
theorem dJ8_newLength_cabcc_23 : decode cJ8_newLength_cabcc 23 = .ok (.invokestatic 201, 3) := by decide +kernel
theorem dJ8_newLength_cabcc_26 : decode cJ8_newLength_cabcc 26 = .ok (.ireturn, 1) := by decide +kernel
theorem dJ3_checkIndex_8e157_0 : decode cJ3_checkIndex_8e157 0 = .ok (.iload_n 0, 1) := by decide +kernel
theorem dJ3_checkIndex_8e157_1 : decode cJ3_checkIndex_8e157 1 = .ok (.ifCond .lt 8, 3) := by decide +kernel
theorem dJ3_checkIndex_8e157_4 : decode cJ3_checkIndex_8e157 4 = .ok (.iload_n 0, 1) := by decide +kernel
theorem dJ3_checkIndex_8e157_5 : decode cJ3_checkIndex_8e157 5 = .ok (.iload_n 1, 1) := by decide +kernel
theorem dJ3_checkIndex_8e157_6 : decode cJ3_checkIndex_8e157 6 = .ok (.if_icmp .lt 10, 3) := by decide +kernel
theorem dJ3_checkIndex_8e157_9 : decode cJ3_checkIndex_8e157 9 = .ok (.aload_n 2, 1) := by decide +kernel
theorem dJ3_checkIndex_8e157_10 : decode cJ3_checkIndex_8e157 10 = .ok (.iload_n 0, 1) := by decide +kernel
theorem dJ3_checkIndex_8e157_11 : decode cJ3_checkIndex_8e157 11 = .ok (.iload_n 1, 1) := by decide +kernel
theorem dJ3_checkIndex_8e157_12 : decode cJ3_checkIndex_8e157 12 = .ok (.invokestatic 95, 3) := by decide +kernel
theorem dJ3_checkIndex_8e157_15 : decode cJ3_checkIndex_8e157 15 = .ok (.athrow, 1) := by decide +kernel
theorem dJ3_checkIndex_8e157_16 : decode cJ3_checkIndex_8e157 16 = .ok (.iload_n 0, 1) := by decide +kernel
theorem dJ3_checkIndex_8e157_17 : decode cJ3_checkIndex_8e157 17 = .ok (.ireturn, 1) := by decide +kernel
